def rm_J0_coder_7d493 : Room := { frames := 0, cells := 0, slots := 0, locals := 0 }
def rm_J0_isLatin1_aae02 : Room := { frames := 0, cells := 0, slots := 0, locals := 0 }
def rm_J3_checkIndex_8e157 : Room := { frames := 0, cells := 0, slots := 0, locals := 0 }
def rm_J0_checkIndex_df160 : Room := { frames := 1, cells := 0, slots := 0, locals := 22 }
def rm_J1_charAt_3b067 : Room := { frames := 2, cells := 0, slots := 0, locals := 43 }
def rm_J0_length_8abf5 : Room := { frames := 1, cells := 0, slots := 0, locals := 20 }
def rm_J0_charAt_5068e : Room := { frames := 3, cells := 0, slots := 0, locals := 64 }
theorem dd_J0_coder_7d493 : yJ0_coder_7d493.cls = RJ0 ∧ yJ0_coder_7d493.cls ≠ "java/lang/invoke/MethodHandle" ∧ yJ0_coder_7d493.cls ≠ "java/lang/invoke/VarHandle" ∧ (parseMethodDescriptor yJ0_coder_7d493.desc).map (fun d => d.parameters.length) = some 0 := by decide +kernel
theorem dd_J0_isLatin1_aae02 : yJ0_isLatin1_aae02.cls = RJ0 ∧ yJ0_isLatin1_aae02.cls ≠ "java/lang/invoke/MethodHandle" ∧ yJ0_isLatin1_aae02.cls ≠ "java/lang/invoke/VarHandle" ∧ (parseMethodDescriptor yJ0_isLatin1_aae02.desc).map (fun d => d.parameters.length) = some 0 := by decide +kernel
theorem dd_J0_checkIndex_df160 : yJ0_checkIndex_df160.cls = RJ0 ∧ yJ0_checkIndex_df160.cls ≠ "java/lang/invoke/MethodHandle" ∧ yJ0_checkIndex_df160.cls ≠ "java/lang/invoke/VarHandle" ∧ (parseMethodDescriptor yJ0_checkIndex_df160.desc).map (fun d => d.parameters.length) = some 2 := by decide +kernel
theorem dd_J1_charAt_3b067 : yJ1_charAt_3b067.cls = RJ1 ∧ yJ1_charAt_3b067.cls ≠ "java/lang/invoke/MethodHandle" ∧ yJ1_charAt_3b067.cls ≠ "java/lang/invoke/VarHandle" ∧ (parseMethodDescriptor yJ1_charAt_3b067.desc).map (fun d => d.parameters.length) = some 2 := by decide +kernel
theorem dd_J3_checkIndex_8e157 : yJ3_checkIndex_8e157.cls = RJ3 ∧ yJ3_checkIndex_8e157.cls ≠ "java/lang/invoke/MethodHandle" ∧ yJ3_checkIndex_8e157.cls ≠ "java/lang/invoke/VarHandle" ∧ (parseMethodDescriptor yJ3_checkIndex_8e157.desc).map (fun d => d.parameters.length) = some 3 := by decide +kernel
theorem sx_len : ∀ i, i < 17 → Int32.ofNat (ex_len.getD i 0) >>> ((0 : Int32) &&& 31) = nI (ex_len.getD i 0) := by decide +kernel
theorem sx_byt : ∀ i, i < 17 → ∀ k, k < ex_len.getD i 0 → (((ex_byt.getD i []).getD k 0 &&& 255).toUInt32 % 65536).toInt32 = (ex_byt.getD i []).getD k 0 := by decide +kernel
theorem sx_nar : ∀ i, i < 17 → ∀ k, k < ex_len.getD i 0 → narrow .char (.int ((ex_byt.getD i []).getD k 0)) = .int ((ex_byt.getD i []).getD k 0) := by decide +kernel
theorem sx_31 : ∀ i, i < 17 → ex_len.getD i 0 < 1000 := by decide +kernel
set_option maxRecDepth 100000 in
theorem k_coder {l : Launch} {D : va_G} {cI cJ : ClassId} {ad : Nat → Nat} {A : Nat → Prop} {adK adV : Nat → Nat} (hI : jx_inj 67 ad A) (w0 : Nat) (hw0 : w0 < 17) (v : jx_V) : jx_Ci l D vwCl 67 cI cJ ad shX A (ex_X adK adV A) yJ0_coder_7d493 (Cond.code yJ0_coder_7d493 cJ0_coder_7d493 1 (some .byte) :: bigT) rm_J0_coder_7d493 [.ref (adK w0)] v 0 v := by
  refine jx_enteri bigT RJ0 cJ0_coder_7d493 1 (some .byte) [(0, .ref (adK w0))] hI (ex_X_ok adK adV A) (by decide +kernel) rfl (Nat.le_of_ble_eq_true rfl) rfl rfl ?_
  intro p e s m args below meth c E
  have h0 := (jx_ex E).2.2.2.1.1 w0 hw0
  refine jx_gets (x := .int 1) E dJ0_coder_7d493_0 (jx_ex E).2.2.2.2.1 (List.mem_cons_of_mem _ tw_20) ?_
  refine jx_if_eq (tgt := 13) E dJ0_coder_7d493_3 (by decide) (fun h => absurd h (by decide)) (fun _ => ?_)
  refine jx_aload_n E dJ0_coder_7d493_6 0 rfl ?_
  refine jx_sget E dJ0_coder_7d493_7 h0.2.1 (List.mem_cons_of_mem _ tw_23) ?_
  refine jx_goto (tgt := 14) E dJ0_coder_7d493_10 (by decide) ?_
  exact jx_nret E dJ0_coder_7d493_14 rfl rfl
set_option maxRecDepth 100000 in
theorem k_lat {l : Launch} {D : va_G} {cI cJ : ClassId} {ad : Nat → Nat} {A : Nat → Prop} {adK adV : Nat → Nat} (hI : jx_inj 67 ad A) (w0 : Nat) (hw0 : w0 < 17) (v : jx_V) : jx_Ci l D vwCl 67 cI cJ ad shX A (ex_X adK adV A) yJ0_isLatin1_aae02 (Cond.code yJ0_isLatin1_aae02 cJ0_isLatin1_aae02 1 (some .boolean) :: bigT) rm_J0_isLatin1_aae02 [.ref (adK w0)] v 1 v := by
  refine jx_enteri bigT RJ0 cJ0_isLatin1_aae02 1 (some .boolean) [(0, .ref (adK w0))] hI (ex_X_ok adK adV A) (by decide +kernel) rfl (Nat.le_of_ble_eq_true rfl) rfl rfl ?_
  intro p e s m args below meth c E
  have h0 := (jx_ex E).2.2.2.1.1 w0 hw0
  refine jx_gets (x := .int 1) E dJ0_isLatin1_aae02_0 (jx_ex E).2.2.2.2.1 (List.mem_cons_of_mem _ tw_20) ?_
  refine jx_if_eq (tgt := 17) E dJ0_isLatin1_aae02_3 (by decide) (fun h => absurd h (by decide)) (fun _ => ?_)
  refine jx_aload_n E dJ0_isLatin1_aae02_6 0 rfl ?_
  refine jx_sget E dJ0_isLatin1_aae02_7 h0.2.1 (List.mem_cons_of_mem _ tw_23) ?_
  refine jx_if_ne (tgt := 17) E dJ0_isLatin1_aae02_10 (by decide) (fun h => absurd rfl h) (fun _ => ?_)
  refine jx_iconst (x := 1) E dJ0_isLatin1_aae02_13 (by decide) ?_
  refine jx_goto (tgt := 18) E dJ0_isLatin1_aae02_14 (by decide) ?_
  exact jx_nret E dJ0_isLatin1_aae02_18 rfl rfl
def f_J0_length_8abf5 (w0 : Nat) (v : jx_V) : Option (Int32 × jx_V) := some (nI (ex_len.getD w0 0), v)
set_option maxRecDepth 100000 in
theorem k_J0_length_8abf5 {l : Launch} {D : va_G} {cI cJ : ClassId} {ad : Nat → Nat} {A : Nat → Prop} {adK adV : Nat → Nat} (hI : jx_inj 67 ad A) (w0 : Nat) (hw0 : w0 < 17) (v : jx_V) (r : Int32) (v' : jx_V) (hF : f_J0_length_8abf5 w0 v = some (r, v')) : jx_Ci l D vwCl 67 cI cJ ad shX A (ex_X adK adV A) yJ0_length_8abf5 (Cond.code yJ0_length_8abf5 cJ0_length_8abf5 1 (some .int) :: bigT) rm_J0_length_8abf5 [.ref (adK w0)] v r v' := by
  obtain ⟨rfl, rfl⟩ := jx_out hF
  refine jx_enteri bigT RJ0 cJ0_length_8abf5 1 (some .int) [(0, .ref (adK w0))] hI (ex_X_ok adK adV A) (by decide +kernel) rfl (Nat.le_of_ble_eq_true rfl) rfl rfl ?_
  intro p e s m args below meth c E
  have h0 := (jx_ex E).2.2.2.1.1 w0 hw0
  refine jx_aload_n E dJ0_length_8abf5_0 0 rfl ?_
  refine jx_sget E dJ0_length_8abf5_1 h0.2.2.1 (List.mem_cons_of_mem _ tw_22) ?_
  refine jx_stlen E dJ0_length_8abf5_4 h0.2.2.2 ?_
  refine jx_aload_n E dJ0_length_8abf5_5 0 rfl ?_
  refine jx_callVSi (As := []) (st := [.int (Int32.ofNat (ex_len.getD w0 0))]) (q := adK w0) E dJ0_length_8abf5_6 0 rfl (k_coder hI w0 hw0 v) (gb_V (List.mem_cons_of_mem _ tw_12) (List.mem_cons_of_mem _ tw_5) (List.mem_cons_of_mem _ tw_6) (List.mem_cons_of_mem _ tw_17) tw_0) rfl rfl rfl dd_J0_coder_7d493 rfl (fun H locs hS => vk_recv (jx_ex E).2.2.2.1 hw0 hS) ⟨by decide, by decide⟩ ⟨Nat.le_refl 0, Nat.le_refl 0⟩ (Nat.le_of_ble_eq_true rfl) ?_
  refine jx_ishr E dJ0_length_8abf5_9 ?_
  rw [sx_len w0 hw0]
  exact jx_iret E dJ0_length_8abf5_10 rfl
set_option maxRecDepth 100000 in
theorem k_pcn {l : Launch} {D : va_G} {cI cJ : ClassId} {ad : Nat → Nat} {A : Nat → Prop} {adK adV : Nat → Nat} (hI : jx_inj 67 ad A) (x0 x1 : Int32) (h1 : ¬ x0 < 0) (h2 : x0 < x1) (v : jx_V) : jx_Ci l D vwCl 67 cI cJ ad shX A (ex_X adK adV A) yJ3_checkIndex_8e157 (Cond.code yJ3_checkIndex_8e157 cJ3_checkIndex_8e157 3 (some .int) :: bigT) rm_J3_checkIndex_8e157 [.int x0, .int x1, .null] v x0 v := by
  refine jx_enteri bigT RJ3 cJ3_checkIndex_8e157 3 (some .int) [(0, .int x0), (1, .int x1), (2, .null)] hI (ex_X_ok adK adV A) (by decide +kernel) rfl (Nat.le_of_ble_eq_true rfl) rfl rfl ?_
  intro p e s m args below meth c E
  refine jx_iload_n E dJ3_checkIndex_8e157_0 0 rfl ?_
  refine jx_if_lt (tgt := 9) E dJ3_checkIndex_8e157_1 (by decide) (fun h => absurd h h1) (fun _ => ?_)
  refine jx_iload_n E dJ3_checkIndex_8e157_4 0 rfl ?_
  refine jx_iload_n E dJ3_checkIndex_8e157_5 1 rfl ?_
  refine jx_icmp_lt (tgt := 16) E dJ3_checkIndex_8e157_6 (by decide) (fun _ => ?_) (fun h => absurd h2 h)
  refine jx_iload_n E dJ3_checkIndex_8e157_16 0 rfl ?_
  exact jx_iret E dJ3_checkIndex_8e157_17 rfl
set_option maxRecDepth 100000 in
theorem k_pcr {l : Launch} {D : va_G} {cI cJ : ClassId} {ad : Nat → Nat} {A : Nat → Prop} {adK adV : Nat → Nat} (hI : jx_inj 67 ad A) (t0 : Nat) (x0 x1 : Int32) (h1 : ¬ x0 < 0) (h2 : x0 < x1) (v : jx_V) : jx_Ci l D vwCl 67 cI cJ ad shX A (ex_X adK adV A) yJ3_checkIndex_8e157 (Cond.code yJ3_checkIndex_8e157 cJ3_checkIndex_8e157 3 (some .int) :: bigT) rm_J3_checkIndex_8e157 [.int x0, .int x1, .ref t0] v x0 v := by
  refine jx_enteri bigT RJ3 cJ3_checkIndex_8e157 3 (some .int) [(0, .int x0), (1, .int x1), (2, .ref t0)] hI (ex_X_ok adK adV A) (by decide +kernel) rfl (Nat.le_of_ble_eq_true rfl) rfl rfl ?_
  intro p e s m args below meth c E
  refine jx_iload_n E dJ3_checkIndex_8e157_0 0 rfl ?_
  refine jx_if_lt (tgt := 9) E dJ3_checkIndex_8e157_1 (by decide) (fun h => absurd h h1) (fun _ => ?_)
  refine jx_iload_n E dJ3_checkIndex_8e157_4 0 rfl ?_
  refine jx_iload_n E dJ3_checkIndex_8e157_5 1 rfl ?_
  refine jx_icmp_lt (tgt := 16) E dJ3_checkIndex_8e157_6 (by decide) (fun _ => ?_) (fun h => absurd h2 h)
  refine jx_iload_n E dJ3_checkIndex_8e157_16 0 rfl ?_
  exact jx_iret E dJ3_checkIndex_8e157_17 rfl
set_option maxRecDepth 100000 in
theorem k_chk {l : Launch} {D : va_G} {cI cJ : ClassId} {ad : Nat → Nat} {A : Nat → Prop} {adK adV : Nat → Nat} (hI : jx_inj 67 ad A) (x0 x1 : Int32) (h1 : ¬ x0 < 0) (h2 : x0 < x1) (v : jx_V) : jx_Cv l D vwCl 67 cI cJ ad shX A (ex_X adK adV A) yJ0_checkIndex_df160 (Cond.code yJ0_checkIndex_df160 cJ0_checkIndex_df160 2 (none) :: bigT) rm_J0_checkIndex_df160 [.int x0, .int x1] v v := by
  refine jx_enterv bigT RJ0 cJ0_checkIndex_df160 2 (none) [(0, .int x0), (1, .int x1)] hI (ex_X_ok adK adV A) (by decide +kernel) rfl (Nat.le_of_ble_eq_true rfl) rfl rfl ?_
  intro p e s m args below meth c E
  refine jx_iload_n E dJ0_checkIndex_df160_0 0 rfl ?_
  refine jx_iload_n E dJ0_checkIndex_df160_1 1 rfl ?_
  rcases (jx_ex E).2.2.2.2.2 with hz | ⟨t0, hz⟩
  · refine jx_gets (x := .null) E dJ0_checkIndex_df160_2 hz (List.mem_cons_of_mem _ tw_21) ?_
    refine jx_callTi (As := [.int x0, .int x1, .null]) (st := []) E dJ0_checkIndex_df160_5 3 rfl (k_pcn hI x0 x1 h1 h2 v) (gb_N tw_4) rfl rfl rfl (List.mem_cons_of_mem _ tw_16) (List.mem_cons_of_mem _ tw_11) (List.mem_cons_of_mem _ tw_19) dd_J3_checkIndex_8e157.2 rfl ⟨by decide, by decide⟩ ⟨Nat.le_refl 0, Nat.le_refl 0⟩ (Nat.le_of_ble_eq_true rfl) ?_
    refine jx_pop E dJ0_checkIndex_df160_8 rfl ?_
    exact jx_vret E dJ0_checkIndex_df160_9 rfl
  · refine jx_gets (x := .ref t0) E dJ0_checkIndex_df160_2 hz (List.mem_cons_of_mem _ tw_21) ?_
    refine jx_callTi (As := [.int x0, .int x1, .ref t0]) (st := []) E dJ0_checkIndex_df160_5 3 rfl (k_pcr hI t0 x0 x1 h1 h2 v) (gb_N tw_4) rfl rfl rfl (List.mem_cons_of_mem _ tw_16) (List.mem_cons_of_mem _ tw_11) (List.mem_cons_of_mem _ tw_19) dd_J3_checkIndex_8e157.2 rfl ⟨by decide, by decide⟩ ⟨Nat.le_refl 0, Nat.le_refl 0⟩ (Nat.le_of_ble_eq_true rfl) ?_
    refine jx_pop E dJ0_checkIndex_df160_8 rfl ?_
    exact jx_vret E dJ0_checkIndex_df160_9 rfl
set_option maxRecDepth 100000 in
theorem k_l1 {l : Launch} {D : va_G} {cI cJ : ClassId} {ad : Nat → Nat} {A : Nat → Prop} {adK adV : Nat → Nat} (hI : jx_inj 67 ad A) (w0 : Nat) (hw0 : w0 < 17) (x1 : Int32) (hi : ¬ (x1 < 0 ∨ ex_len.getD w0 0 ≤ Int32.toNatClampNeg x1)) (v : jx_V) : jx_Ci l D vwCl 67 cI cJ ad shX A (ex_X adK adV A) yJ1_charAt_3b067 (Cond.code yJ1_charAt_3b067 cJ1_charAt_3b067 2 (some .char) :: bigT) rm_J1_charAt_3b067 [.ref (adV w0), .int x1] v ((ex_byt.getD w0 []).getD (Int32.toNatClampNeg x1) 0) v := by
  refine jx_enteri bigT RJ1 cJ1_charAt_3b067 2 (some .char) [(0, .ref (adV w0)), (1, .int x1)] hI (ex_X_ok adK adV A) (by decide +kernel) rfl (Nat.le_of_ble_eq_true rfl) rfl rfl ?_
  intro p e s m args below meth c E
  have h0 := (jx_ex E).2.2.2.1.1 w0 hw0
  have h1 : ¬ x1 < 0 := fun q => hi (Or.inl q)
  have hlt : x1.toNatClampNeg < ex_len.getD w0 0 := Nat.not_le.mp fun q => hi (Or.inr q)
  have h31 := sx_31 w0 hw0
  have h2 : x1 < Int32.ofNat (ex_len.getD w0 0) := by
    obtain ⟨j, hj, rfl⟩ := nI_of h1
    rw [nI_clamp hj] at hlt
    exact nI_lt hlt (by omega)
  refine jx_iload_n E dJ1_charAt_3b067_0 1 rfl ?_
  refine jx_aload_n E dJ1_charAt_3b067_1 0 rfl ?_
  refine jx_stlen E dJ1_charAt_3b067_2 h0.2.2.2 ?_
  refine jx_callTv (As := [.int x1, .int (Int32.ofNat (ex_len.getD w0 0))]) (st := []) E dJ1_charAt_3b067_3 2 rfl (k_chk hI x1 (Int32.ofNat (ex_len.getD w0 0)) h1 h2 v) (gb_N tw_2) rfl rfl rfl (List.mem_cons_of_mem _ tw_15) (List.mem_cons_of_mem _ tw_9) (List.mem_cons_of_mem _ tw_17) dd_J0_checkIndex_df160.2 rfl ⟨by decide, by decide⟩ ⟨Nat.le_refl 0, Nat.le_refl 0⟩ (Nat.le_of_ble_eq_true rfl) ?_
  refine jx_aload_n E dJ1_charAt_3b067_6 0 rfl ?_
  refine jx_iload_n E dJ1_charAt_3b067_7 1 rfl ?_
  refine jx_stb E dJ1_charAt_3b067_8 h0.2.2.2 hi ?_
  refine jx_sipush (x := 255) E dJ1_charAt_3b067_9 (by decide) ?_
  refine jx_iand E dJ1_charAt_3b067_12 ?_
  refine jx_i2c E dJ1_charAt_3b067_13 ?_
  rw [sx_byt w0 hw0 _ hlt]
  exact jx_nret E dJ1_charAt_3b067_14 rfl (sx_nar w0 hw0 _ hlt)
def f_J0_charAt_5068e (w0 : Nat) (x1 : Int32) (v : jx_V) : Option (Int32 × jx_V) := (if (x1 < 0 ∨ ex_len.getD w0 0 ≤ Int32.toNatClampNeg x1) then none else some (((ex_byt.getD w0 []).getD (Int32.toNatClampNeg x1) 0), v))
set_option maxRecDepth 100000 in
theorem k_J0_charAt_5068e {l : Launch} {D : va_G} {cI cJ : ClassId} {ad : Nat → Nat} {A : Nat → Prop} {adK adV : Nat → Nat} (hI : jx_inj 67 ad A) (w0 : Nat) (hw0 : w0 < 17) (x1 : Int32) (v : jx_V) (r : Int32) (v' : jx_V) (hF : f_J0_charAt_5068e w0 x1 v = some (r, v')) : jx_Ci l D vwCl 67 cI cJ ad shX A (ex_X adK adV A) yJ0_charAt_5068e (Cond.code yJ0_charAt_5068e cJ0_charAt_5068e 2 (some .char) :: bigT) rm_J0_charAt_5068e [.ref (adK w0), .int x1] v r v' := by
  obtain ⟨hi, hF⟩ := jx_guard hF
  obtain ⟨rfl, rfl⟩ := jx_out hF
  have hlt : x1.toNatClampNeg < ex_len.getD w0 0 := Nat.not_le.mp fun q => hi (Or.inr q)
  refine jx_enteri bigT RJ0 cJ0_charAt_5068e 2 (some .char) [(0, .ref (adK w0)), (1, .int x1)] hI (ex_X_ok adK adV A) (by decide +kernel) rfl (Nat.le_of_ble_eq_true rfl) rfl rfl ?_
  intro p e s m args below meth c E
  have h0 := (jx_ex E).2.2.2.1.1 w0 hw0
  refine jx_aload_n E dJ0_charAt_5068e_0 0 rfl ?_
  refine jx_callVSi (As := []) (st := []) (q := adK w0) E dJ0_charAt_5068e_1 0 rfl (k_lat hI w0 hw0 v) (gb_V (List.mem_cons_of_mem _ tw_13) (List.mem_cons_of_mem _ tw_7) (List.mem_cons_of_mem _ tw_8) (List.mem_cons_of_mem _ tw_17) tw_1) rfl rfl rfl dd_J0_isLatin1_aae02 rfl (fun H locs hS => vk_recv (jx_ex E).2.2.2.1 hw0 hS) ⟨by decide, by decide⟩ ⟨Nat.le_refl 0, Nat.le_refl 0⟩ (Nat.le_of_ble_eq_true rfl) ?_
  refine jx_if_eq (tgt := 16) E dJ0_charAt_5068e_4 (by decide) (fun h => absurd h (by decide)) (fun _ => ?_)
  refine jx_aload_n E dJ0_charAt_5068e_7 0 rfl ?_
  refine jx_sget E dJ0_charAt_5068e_8 h0.2.2.1 (List.mem_cons_of_mem _ tw_22) ?_
  refine jx_iload_n E dJ0_charAt_5068e_11 1 rfl ?_
  refine jx_callTi (As := [.ref (adV w0), .int x1]) (st := []) E dJ0_charAt_5068e_12 2 rfl (k_l1 hI w0 hw0 x1 hi v) (gb_N tw_3) rfl rfl rfl (List.mem_cons_of_mem _ tw_14) (List.mem_cons_of_mem _ tw_10) (List.mem_cons_of_mem _ tw_18) dd_J1_charAt_3b067.2 rfl ⟨by decide, by decide⟩ ⟨Nat.le_refl 0, Nat.le_refl 0⟩ (Nat.le_of_ble_eq_true rfl) ?_
  exact jx_nret E dJ0_charAt_5068e_15 rfl (sx_nar w0 hw0 _ hlt)
