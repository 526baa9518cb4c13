def f_J6_compare_7cf53 (x0 : Int32) (x1 : Int32) (v : jx_V) : Option (Int32 × jx_V) := (if x1 ≤ x0 then (if x0 = x1 then (some (0, v)) else (some (1, v))) else (some ((-1), v)))
def rm_J6_compare_7cf53 : Room := { frames := 0, cells := 0, slots := 0, locals := 0 }
set_option maxHeartbeats 4000000 in
set_option maxRecDepth 100000 in
theorem k_J6_compare_7cf53 {l : Launch} {D : va_G} {cI cJ : ClassId} {ad : Nat → Nat} {A : Nat → Prop} {adK adV : Nat → Nat} (hI : jx_inj 67 ad A) (x0 : Int32) (x1 : Int32) (v : jx_V) (r : Int32) (v' : jx_V) (hF : f_J6_compare_7cf53 x0 x1 v = some (r, v')) : jx_Ci l D vwCl 67 cI cJ ad shX A (ex_X adK adV A) yJ6_compare_7cf53 (Cond.code yJ6_compare_7cf53 cJ6_compare_7cf53 2 (some .int) :: bigT) rm_J6_compare_7cf53 [.int x0, .int x1] v r v' := by
  unfold f_J6_compare_7cf53 at hF
  refine jx_enteri bigT RJ6 cJ6_compare_7cf53 2 (some .int) [(0, .int x0), (1, .int x1)] hI (ex_X_ok adK adV A) (by decide +kernel) rfl (Nat.le_of_ble_eq_true rfl) rfl rfl ?_
  intro p e s m args below meth c E
  refine jx_iload_n E dJ6_compare_7cf53_0 0 rfl ?_
  refine jx_iload_n E dJ6_compare_7cf53_1 1 rfl ?_
  refine jx_icmp_ge (tgt := 9) E dJ6_compare_7cf53_2 (by decide) (fun hc1 => ?_) (fun hc1 => ?_)
  · rw [if_pos hc1] at hF
    refine jx_iload_n E dJ6_compare_7cf53_9 0 rfl ?_
    refine jx_iload_n E dJ6_compare_7cf53_10 1 rfl ?_
    refine jx_icmp_ne (tgt := 18) E dJ6_compare_7cf53_11 (by decide) (fun hc2 => ?_) (fun hc2 => ?_)
    · rw [if_neg hc2] at hF
      refine jx_iconst (x := 1) E dJ6_compare_7cf53_18 (by decide) ?_
      obtain ⟨rfl, rfl⟩ := jx_out hF
      exact jx_iret E dJ6_compare_7cf53_19 rfl
    · rw [if_pos hc2] at hF
      refine jx_iconst (x := 0) E dJ6_compare_7cf53_14 (by decide) ?_
      refine jx_goto (tgt := 19) E dJ6_compare_7cf53_15 (by decide) ?_
      obtain ⟨rfl, rfl⟩ := jx_out hF
      exact jx_iret E dJ6_compare_7cf53_19 rfl
  · rw [if_neg hc1] at hF
    refine jx_iconst (x := -1) E dJ6_compare_7cf53_5 (by decide) ?_
    refine jx_goto (tgt := 19) E dJ6_compare_7cf53_6 (by decide) ?_
    obtain ⟨rfl, rfl⟩ := jx_out hF
    exact jx_iret E dJ6_compare_7cf53_19 rfl
def f_J6_bitCount_0f7a4 (x0 : Int32) (v : jx_V) : Option (Int32 × jx_V) := (some (((((((((x0 - ((Int32.toUInt32 x0 >>> (Int32.toUInt32 1 &&& Int32.toUInt32 31)).toInt32 &&& 1431655765)) &&& 858993459) + ((Int32.toUInt32 (x0 - ((Int32.toUInt32 x0 >>> (Int32.toUInt32 1 &&& Int32.toUInt32 31)).toInt32 &&& 1431655765)) >>> (Int32.toUInt32 2 &&& Int32.toUInt32 31)).toInt32 &&& 858993459)) + (Int32.toUInt32 (((x0 - ((Int32.toUInt32 x0 >>> (Int32.toUInt32 1 &&& Int32.toUInt32 31)).toInt32 &&& 1431655765)) &&& 858993459) + ((Int32.toUInt32 (x0 - ((Int32.toUInt32 x0 >>> (Int32.toUInt32 1 &&& Int32.toUInt32 31)).toInt32 &&& 1431655765)) >>> (Int32.toUInt32 2 &&& Int32.toUInt32 31)).toInt32 &&& 858993459)) >>> (Int32.toUInt32 4 &&& Int32.toUInt32 31)).toInt32) &&& 252645135) + (Int32.toUInt32 (((((x0 - ((Int32.toUInt32 x0 >>> (Int32.toUInt32 1 &&& Int32.toUInt32 31)).toInt32 &&& 1431655765)) &&& 858993459) + ((Int32.toUInt32 (x0 - ((Int32.toUInt32 x0 >>> (Int32.toUInt32 1 &&& Int32.toUInt32 31)).toInt32 &&& 1431655765)) >>> (Int32.toUInt32 2 &&& Int32.toUInt32 31)).toInt32 &&& 858993459)) + (Int32.toUInt32 (((x0 - ((Int32.toUInt32 x0 >>> (Int32.toUInt32 1 &&& Int32.toUInt32 31)).toInt32 &&& 1431655765)) &&& 858993459) + ((Int32.toUInt32 (x0 - ((Int32.toUInt32 x0 >>> (Int32.toUInt32 1 &&& Int32.toUInt32 31)).toInt32 &&& 1431655765)) >>> (Int32.toUInt32 2 &&& Int32.toUInt32 31)).toInt32 &&& 858993459)) >>> (Int32.toUInt32 4 &&& Int32.toUInt32 31)).toInt32) &&& 252645135) >>> (Int32.toUInt32 8 &&& Int32.toUInt32 31)).toInt32) + (Int32.toUInt32 ((((((x0 - ((Int32.toUInt32 x0 >>> (Int32.toUInt32 1 &&& Int32.toUInt32 31)).toInt32 &&& 1431655765)) &&& 858993459) + ((Int32.toUInt32 (x0 - ((Int32.toUInt32 x0 >>> (Int32.toUInt32 1 &&& Int32.toUInt32 31)).toInt32 &&& 1431655765)) >>> (Int32.toUInt32 2 &&& Int32.toUInt32 31)).toInt32 &&& 858993459)) + (Int32.toUInt32 (((x0 - ((Int32.toUInt32 x0 >>> (Int32.toUInt32 1 &&& Int32.toUInt32 31)).toInt32 &&& 1431655765)) &&& 858993459) + ((Int32.toUInt32 (x0 - ((Int32.toUInt32 x0 >>> (Int32.toUInt32 1 &&& Int32.toUInt32 31)).toInt32 &&& 1431655765)) >>> (Int32.toUInt32 2 &&& Int32.toUInt32 31)).toInt32 &&& 858993459)) >>> (Int32.toUInt32 4 &&& Int32.toUInt32 31)).toInt32) &&& 252645135) + (Int32.toUInt32 (((((x0 - ((Int32.toUInt32 x0 >>> (Int32.toUInt32 1 &&& Int32.toUInt32 31)).toInt32 &&& 1431655765)) &&& 858993459) + ((Int32.toUInt32 (x0 - ((Int32.toUInt32 x0 >>> (Int32.toUInt32 1 &&& Int32.toUInt32 31)).toInt32 &&& 1431655765)) >>> (Int32.toUInt32 2 &&& Int32.toUInt32 31)).toInt32 &&& 858993459)) + (Int32.toUInt32 (((x0 - ((Int32.toUInt32 x0 >>> (Int32.toUInt32 1 &&& Int32.toUInt32 31)).toInt32 &&& 1431655765)) &&& 858993459) + ((Int32.toUInt32 (x0 - ((Int32.toUInt32 x0 >>> (Int32.toUInt32 1 &&& Int32.toUInt32 31)).toInt32 &&& 1431655765)) >>> (Int32.toUInt32 2 &&& Int32.toUInt32 31)).toInt32 &&& 858993459)) >>> (Int32.toUInt32 4 &&& Int32.toUInt32 31)).toInt32) &&& 252645135) >>> (Int32.toUInt32 8 &&& Int32.toUInt32 31)).toInt32) >>> (Int32.toUInt32 16 &&& Int32.toUInt32 31)).toInt32) &&& 63), v))
def rm_J6_bitCount_0f7a4 : Room := { frames := 0, cells := 0, slots := 0, locals := 0 }
set_option maxHeartbeats 4000000 in
set_option maxRecDepth 100000 in
theorem k_J6_bitCount_0f7a4 {l : Launch} {D : va_G} {cI cJ : ClassId} {ad : Nat → Nat} {A : Nat → Prop} {adK adV : Nat → Nat} (hI : jx_inj 67 ad A) (x0 : Int32) (v : jx_V) (r : Int32) (v' : jx_V) (hF : f_J6_bitCount_0f7a4 x0 v = some (r, v')) : jx_Ci l D vwCl 67 cI cJ ad shX A (ex_X adK adV A) yJ6_bitCount_0f7a4 (Cond.code yJ6_bitCount_0f7a4 cJ6_bitCount_0f7a4 1 (some .int) :: bigT) rm_J6_bitCount_0f7a4 [.int x0] v r v' := by
  unfold f_J6_bitCount_0f7a4 at hF
  refine jx_enteri bigT RJ6 cJ6_bitCount_0f7a4 1 (some .int) [(0, .int x0)] hI (ex_X_ok adK adV A) (by decide +kernel) rfl (Nat.le_of_ble_eq_true rfl) rfl rfl ?_
  intro p e s m args below meth c E
  refine jx_iload_n E dJ6_bitCount_0f7a4_0 0 rfl ?_
  refine jx_iload_n E dJ6_bitCount_0f7a4_1 0 rfl ?_
  refine jx_iconst (x := 1) E dJ6_bitCount_0f7a4_2 (by decide) ?_
  refine jx_iushr E dJ6_bitCount_0f7a4_3 ?_
  refine jx_ldcw (x := 1431655765) E dJ6_bitCount_0f7a4_4 (List.mem_cons_of_mem _ tw_24) ?_
  refine jx_iand E dJ6_bitCount_0f7a4_7 ?_
  refine jx_isub E dJ6_bitCount_0f7a4_8 ?_
  refine jx_istore_n (lv' := [(0, .int (x0 - ((Int32.toUInt32 x0 >>> (Int32.toUInt32 1 &&& Int32.toUInt32 31)).toInt32 &&& 1431655765)))]) E dJ6_bitCount_0f7a4_9 (by decide) rfl ?_
  refine jx_iload_n E dJ6_bitCount_0f7a4_10 0 rfl ?_
  refine jx_ldcw (x := 858993459) E dJ6_bitCount_0f7a4_11 (List.mem_cons_of_mem _ tw_25) ?_
  refine jx_iand E dJ6_bitCount_0f7a4_14 ?_
  refine jx_iload_n E dJ6_bitCount_0f7a4_15 0 rfl ?_
  refine jx_iconst (x := 2) E dJ6_bitCount_0f7a4_16 (by decide) ?_
  refine jx_iushr E dJ6_bitCount_0f7a4_17 ?_
  refine jx_ldcw (x := 858993459) E dJ6_bitCount_0f7a4_18 (List.mem_cons_of_mem _ tw_25) ?_
  refine jx_iand E dJ6_bitCount_0f7a4_21 ?_
  refine jx_iadd E dJ6_bitCount_0f7a4_22 ?_
  refine jx_istore_n (lv' := [(0, .int (((x0 - ((Int32.toUInt32 x0 >>> (Int32.toUInt32 1 &&& Int32.toUInt32 31)).toInt32 &&& 1431655765)) &&& 858993459) + ((Int32.toUInt32 (x0 - ((Int32.toUInt32 x0 >>> (Int32.toUInt32 1 &&& Int32.toUInt32 31)).toInt32 &&& 1431655765)) >>> (Int32.toUInt32 2 &&& Int32.toUInt32 31)).toInt32 &&& 858993459)))]) E dJ6_bitCount_0f7a4_23 (by decide) rfl ?_
  refine jx_iload_n E dJ6_bitCount_0f7a4_24 0 rfl ?_
  refine jx_iload_n E dJ6_bitCount_0f7a4_25 0 rfl ?_
  refine jx_iconst (x := 4) E dJ6_bitCount_0f7a4_26 (by decide) ?_
  refine jx_iushr E dJ6_bitCount_0f7a4_27 ?_
  refine jx_iadd E dJ6_bitCount_0f7a4_28 ?_
  refine jx_ldcw (x := 252645135) E dJ6_bitCount_0f7a4_29 (List.mem_cons_of_mem _ tw_26) ?_
  refine jx_iand E dJ6_bitCount_0f7a4_32 ?_
  refine jx_istore_n (lv' := [(0, .int (((((x0 - ((Int32.toUInt32 x0 >>> (Int32.toUInt32 1 &&& Int32.toUInt32 31)).toInt32 &&& 1431655765)) &&& 858993459) + ((Int32.toUInt32 (x0 - ((Int32.toUInt32 x0 >>> (Int32.toUInt32 1 &&& Int32.toUInt32 31)).toInt32 &&& 1431655765)) >>> (Int32.toUInt32 2 &&& Int32.toUInt32 31)).toInt32 &&& 858993459)) + (Int32.toUInt32 (((x0 - ((Int32.toUInt32 x0 >>> (Int32.toUInt32 1 &&& Int32.toUInt32 31)).toInt32 &&& 1431655765)) &&& 858993459) + ((Int32.toUInt32 (x0 - ((Int32.toUInt32 x0 >>> (Int32.toUInt32 1 &&& Int32.toUInt32 31)).toInt32 &&& 1431655765)) >>> (Int32.toUInt32 2 &&& Int32.toUInt32 31)).toInt32 &&& 858993459)) >>> (Int32.toUInt32 4 &&& Int32.toUInt32 31)).toInt32) &&& 252645135))]) E dJ6_bitCount_0f7a4_33 (by decide) rfl ?_
  refine jx_iload_n E dJ6_bitCount_0f7a4_34 0 rfl ?_
  refine jx_iload_n E dJ6_bitCount_0f7a4_35 0 rfl ?_
  refine jx_bipush (x := 8) E dJ6_bitCount_0f7a4_36 (by decide) ?_
  refine jx_iushr E dJ6_bitCount_0f7a4_38 ?_
  refine jx_iadd E dJ6_bitCount_0f7a4_39 ?_
  refine jx_istore_n (lv' := [(0, .int ((((((x0 - ((Int32.toUInt32 x0 >>> (Int32.toUInt32 1 &&& Int32.toUInt32 31)).toInt32 &&& 1431655765)) &&& 858993459) + ((Int32.toUInt32 (x0 - ((Int32.toUInt32 x0 >>> (Int32.toUInt32 1 &&& Int32.toUInt32 31)).toInt32 &&& 1431655765)) >>> (Int32.toUInt32 2 &&& Int32.toUInt32 31)).toInt32 &&& 858993459)) + (Int32.toUInt32 (((x0 - ((Int32.toUInt32 x0 >>> (Int32.toUInt32 1 &&& Int32.toUInt32 31)).toInt32 &&& 1431655765)) &&& 858993459) + ((Int32.toUInt32 (x0 - ((Int32.toUInt32 x0 >>> (Int32.toUInt32 1 &&& Int32.toUInt32 31)).toInt32 &&& 1431655765)) >>> (Int32.toUInt32 2 &&& Int32.toUInt32 31)).toInt32 &&& 858993459)) >>> (Int32.toUInt32 4 &&& Int32.toUInt32 31)).toInt32) &&& 252645135) + (Int32.toUInt32 (((((x0 - ((Int32.toUInt32 x0 >>> (Int32.toUInt32 1 &&& Int32.toUInt32 31)).toInt32 &&& 1431655765)) &&& 858993459) + ((Int32.toUInt32 (x0 - ((Int32.toUInt32 x0 >>> (Int32.toUInt32 1 &&& Int32.toUInt32 31)).toInt32 &&& 1431655765)) >>> (Int32.toUInt32 2 &&& Int32.toUInt32 31)).toInt32 &&& 858993459)) + (Int32.toUInt32 (((x0 - ((Int32.toUInt32 x0 >>> (Int32.toUInt32 1 &&& Int32.toUInt32 31)).toInt32 &&& 1431655765)) &&& 858993459) + ((Int32.toUInt32 (x0 - ((Int32.toUInt32 x0 >>> (Int32.toUInt32 1 &&& Int32.toUInt32 31)).toInt32 &&& 1431655765)) >>> (Int32.toUInt32 2 &&& Int32.toUInt32 31)).toInt32 &&& 858993459)) >>> (Int32.toUInt32 4 &&& Int32.toUInt32 31)).toInt32) &&& 252645135) >>> (Int32.toUInt32 8 &&& Int32.toUInt32 31)).toInt32))]) E dJ6_bitCount_0f7a4_40 (by decide) rfl ?_
  refine jx_iload_n E dJ6_bitCount_0f7a4_41 0 rfl ?_
  refine jx_iload_n E dJ6_bitCount_0f7a4_42 0 rfl ?_
  refine jx_bipush (x := 16) E dJ6_bitCount_0f7a4_43 (by decide) ?_
  refine jx_iushr E dJ6_bitCount_0f7a4_45 ?_
  refine jx_iadd E dJ6_bitCount_0f7a4_46 ?_
  refine jx_istore_n (lv' := [(0, .int (((((((x0 - ((Int32.toUInt32 x0 >>> (Int32.toUInt32 1 &&& Int32.toUInt32 31)).toInt32 &&& 1431655765)) &&& 858993459) + ((Int32.toUInt32 (x0 - ((Int32.toUInt32 x0 >>> (Int32.toUInt32 1 &&& Int32.toUInt32 31)).toInt32 &&& 1431655765)) >>> (Int32.toUInt32 2 &&& Int32.toUInt32 31)).toInt32 &&& 858993459)) + (Int32.toUInt32 (((x0 - ((Int32.toUInt32 x0 >>> (Int32.toUInt32 1 &&& Int32.toUInt32 31)).toInt32 &&& 1431655765)) &&& 858993459) + ((Int32.toUInt32 (x0 - ((Int32.toUInt32 x0 >>> (Int32.toUInt32 1 &&& Int32.toUInt32 31)).toInt32 &&& 1431655765)) >>> (Int32.toUInt32 2 &&& Int32.toUInt32 31)).toInt32 &&& 858993459)) >>> (Int32.toUInt32 4 &&& Int32.toUInt32 31)).toInt32) &&& 252645135) + (Int32.toUInt32 (((((x0 - ((Int32.toUInt32 x0 >>> (Int32.toUInt32 1 &&& Int32.toUInt32 31)).toInt32 &&& 1431655765)) &&& 858993459) + ((Int32.toUInt32 (x0 - ((Int32.toUInt32 x0 >>> (Int32.toUInt32 1 &&& Int32.toUInt32 31)).toInt32 &&& 1431655765)) >>> (Int32.toUInt32 2 &&& Int32.toUInt32 31)).toInt32 &&& 858993459)) + (Int32.toUInt32 (((x0 - ((Int32.toUInt32 x0 >>> (Int32.toUInt32 1 &&& Int32.toUInt32 31)).toInt32 &&& 1431655765)) &&& 858993459) + ((Int32.toUInt32 (x0 - ((Int32.toUInt32 x0 >>> (Int32.toUInt32 1 &&& Int32.toUInt32 31)).toInt32 &&& 1431655765)) >>> (Int32.toUInt32 2 &&& Int32.toUInt32 31)).toInt32 &&& 858993459)) >>> (Int32.toUInt32 4 &&& Int32.toUInt32 31)).toInt32) &&& 252645135) >>> (Int32.toUInt32 8 &&& Int32.toUInt32 31)).toInt32) + (Int32.toUInt32 ((((((x0 - ((Int32.toUInt32 x0 >>> (Int32.toUInt32 1 &&& Int32.toUInt32 31)).toInt32 &&& 1431655765)) &&& 858993459) + ((Int32.toUInt32 (x0 - ((Int32.toUInt32 x0 >>> (Int32.toUInt32 1 &&& Int32.toUInt32 31)).toInt32 &&& 1431655765)) >>> (Int32.toUInt32 2 &&& Int32.toUInt32 31)).toInt32 &&& 858993459)) + (Int32.toUInt32 (((x0 - ((Int32.toUInt32 x0 >>> (Int32.toUInt32 1 &&& Int32.toUInt32 31)).toInt32 &&& 1431655765)) &&& 858993459) + ((Int32.toUInt32 (x0 - ((Int32.toUInt32 x0 >>> (Int32.toUInt32 1 &&& Int32.toUInt32 31)).toInt32 &&& 1431655765)) >>> (Int32.toUInt32 2 &&& Int32.toUInt32 31)).toInt32 &&& 858993459)) >>> (Int32.toUInt32 4 &&& Int32.toUInt32 31)).toInt32) &&& 252645135) + (Int32.toUInt32 (((((x0 - ((Int32.toUInt32 x0 >>> (Int32.toUInt32 1 &&& Int32.toUInt32 31)).toInt32 &&& 1431655765)) &&& 858993459) + ((Int32.toUInt32 (x0 - ((Int32.toUInt32 x0 >>> (Int32.toUInt32 1 &&& Int32.toUInt32 31)).toInt32 &&& 1431655765)) >>> (Int32.toUInt32 2 &&& Int32.toUInt32 31)).toInt32 &&& 858993459)) + (Int32.toUInt32 (((x0 - ((Int32.toUInt32 x0 >>> (Int32.toUInt32 1 &&& Int32.toUInt32 31)).toInt32 &&& 1431655765)) &&& 858993459) + ((Int32.toUInt32 (x0 - ((Int32.toUInt32 x0 >>> (Int32.toUInt32 1 &&& Int32.toUInt32 31)).toInt32 &&& 1431655765)) >>> (Int32.toUInt32 2 &&& Int32.toUInt32 31)).toInt32 &&& 858993459)) >>> (Int32.toUInt32 4 &&& Int32.toUInt32 31)).toInt32) &&& 252645135) >>> (Int32.toUInt32 8 &&& Int32.toUInt32 31)).toInt32) >>> (Int32.toUInt32 16 &&& Int32.toUInt32 31)).toInt32))]) E dJ6_bitCount_0f7a4_47 (by decide) rfl ?_
  refine jx_iload_n E dJ6_bitCount_0f7a4_48 0 rfl ?_
  refine jx_bipush (x := 63) E dJ6_bitCount_0f7a4_49 (by decide) ?_
  refine jx_iand E dJ6_bitCount_0f7a4_51 ?_
  obtain ⟨rfl, rfl⟩ := jx_out hF
  exact jx_iret E dJ6_bitCount_0f7a4_52 rfl
def f_J9_floorDiv_7cf53 (x0 : Int32) (x1 : Int32) (v : jx_V) : Option (Int32 × jx_V) := (if x1 = 0 then none else (if 0 ≤ (x0 ^^^ x1) then (some ((x0 / x1), v)) else (if ((x0 / x1) * x1) = x0 then (some ((x0 / x1), v)) else (some (((x0 / x1) - 1), v)))))
def rm_J9_floorDiv_7cf53 : Room := { frames := 0, cells := 0, slots := 0, locals := 0 }
set_option maxHeartbeats 4000000 in
set_option maxRecDepth 100000 in
theorem k_J9_floorDiv_7cf53 {l : Launch} {D : va_G} {cI cJ : ClassId} {ad : Nat → Nat} {A : Nat → Prop} {adK adV : Nat → Nat} (hI : jx_inj 67 ad A) (x0 : Int32) (x1 : Int32) (v : jx_V) (r : Int32) (v' : jx_V) (hF : f_J9_floorDiv_7cf53 x0 x1 v = some (r, v')) : jx_Ci l D vwCl 67 cI cJ ad shX A (ex_X adK adV A) yJ9_floorDiv_7cf53 (Cond.code yJ9_floorDiv_7cf53 cJ9_floorDiv_7cf53 3 (some .int) :: bigT) rm_J9_floorDiv_7cf53 [.int x0, .int x1] v r v' := by
  unfold f_J9_floorDiv_7cf53 at hF
  refine jx_enteriF bigT RJ9 cJ9_floorDiv_7cf53 3 (some .int) [(0, .int x0), (1, .int x1)] hI (ex_X_ok adK adV A) (by decide +kernel) rfl (Nat.le_of_ble_eq_true rfl) rfl rfl ?_
  intro p e s m args below meth c E
  refine jx_iload_n E dJ9_floorDiv_7cf53_0 0 rfl ?_
  refine jx_iload_n E dJ9_floorDiv_7cf53_1 1 rfl ?_
  obtain ⟨hg1, hF⟩ := jx_guard hF
  refine jx_idiv E dJ9_floorDiv_7cf53_2 hg1 ?_
  refine jx_istore_n (lv' := [(2, .int (x0 / x1)), (0, .int x0), (1, .int x1)]) E dJ9_floorDiv_7cf53_3 (by decide) rfl ?_
  refine jx_iload_n E dJ9_floorDiv_7cf53_4 1 rfl ?_
  refine jx_iload_n E dJ9_floorDiv_7cf53_5 2 rfl ?_
  refine jx_ixor E dJ9_floorDiv_7cf53_6 ?_
  refine jx_if_ge (tgt := 21) E dJ9_floorDiv_7cf53_7 (by decide) (fun hc2 => ?_) (fun hc2 => ?_)
  · rw [if_pos hc2] at hF
    refine jx_iload_n E dJ9_floorDiv_7cf53_21 0 rfl ?_
    obtain ⟨rfl, rfl⟩ := jx_out hF
    exact jx_iret E dJ9_floorDiv_7cf53_22 rfl
  · rw [if_neg hc2] at hF
    refine jx_iload_n E dJ9_floorDiv_7cf53_10 0 rfl ?_
    refine jx_iload_n E dJ9_floorDiv_7cf53_11 2 rfl ?_
    refine jx_imul E dJ9_floorDiv_7cf53_12 ?_
    refine jx_iload_n E dJ9_floorDiv_7cf53_13 1 rfl ?_
    refine jx_icmp_eq (tgt := 21) E dJ9_floorDiv_7cf53_14 (by decide) (fun hc3 => ?_) (fun hc3 => ?_)
    · rw [if_pos hc3] at hF
      refine jx_iload_n E dJ9_floorDiv_7cf53_21 0 rfl ?_
      obtain ⟨rfl, rfl⟩ := jx_out hF
      exact jx_iret E dJ9_floorDiv_7cf53_22 rfl
    · rw [if_neg hc3] at hF
      refine jx_iload_n E dJ9_floorDiv_7cf53_17 0 rfl ?_
      refine jx_iconst (x := 1) E dJ9_floorDiv_7cf53_18 (by decide) ?_
      refine jx_isub E dJ9_floorDiv_7cf53_19 ?_
      obtain ⟨rfl, rfl⟩ := jx_out hF
      exact jx_iret E dJ9_floorDiv_7cf53_20 rfl
def f_J9_max_7cf53 (x0 : Int32) (x1 : Int32) (v : jx_V) : Option (Int32 × jx_V) := (if x0 < x1 then (some (x1, v)) else (some (x0, v)))
def rm_J9_max_7cf53 : Room := { frames := 0, cells := 0, slots := 0, locals := 0 }
set_option maxHeartbeats 4000000 in
set_option maxRecDepth 100000 in
theorem k_J9_max_7cf53 {l : Launch} {D : va_G} {cI cJ : ClassId} {ad : Nat → Nat} {A : Nat → Prop} {adK adV : Nat → Nat} (hI : jx_inj 67 ad A) (x0 : Int32) (x1 : Int32) (v : jx_V) (r : Int32) (v' : jx_V) (hF : f_J9_max_7cf53 x0 x1 v = some (r, v')) : jx_Ci l D vwCl 67 cI cJ ad shX A (ex_X adK adV A) yJ9_max_7cf53 (Cond.code yJ9_max_7cf53 cJ9_max_7cf53 2 (some .int) :: bigT) rm_J9_max_7cf53 [.int x0, .int x1] v r v' := by
  unfold f_J9_max_7cf53 at hF
  refine jx_enteriF bigT RJ9 cJ9_max_7cf53 2 (some .int) [(0, .int x0), (1, .int x1)] hI (ex_X_ok adK adV A) (by decide +kernel) rfl (Nat.le_of_ble_eq_true rfl) rfl rfl ?_
  intro p e s m args below meth c E
  refine jx_iload_n E dJ9_max_7cf53_0 0 rfl ?_
  refine jx_iload_n E dJ9_max_7cf53_1 1 rfl ?_
  refine jx_icmp_lt (tgt := 9) E dJ9_max_7cf53_2 (by decide) (fun hc1 => ?_) (fun hc1 => ?_)
  · rw [if_pos hc1] at hF
    refine jx_iload_n E dJ9_max_7cf53_9 1 rfl ?_
    obtain ⟨rfl, rfl⟩ := jx_out hF
    exact jx_iret E dJ9_max_7cf53_10 rfl
  · rw [if_neg hc1] at hF
    refine jx_iload_n E dJ9_max_7cf53_5 0 rfl ?_
    refine jx_goto (tgt := 10) E dJ9_max_7cf53_6 (by decide) ?_
    obtain ⟨rfl, rfl⟩ := jx_out hF
    exact jx_iret E dJ9_max_7cf53_10 rfl
def f_J9_min_7cf53 (x0 : Int32) (x1 : Int32) (v : jx_V) : Option (Int32 × jx_V) := (if x1 < x0 then (some (x1, v)) else (some (x0, v)))
def rm_J9_min_7cf53 : Room := { frames := 0, cells := 0, slots := 0, locals := 0 }
set_option maxHeartbeats 4000000 in
set_option maxRecDepth 100000 in
theorem k_J9_min_7cf53 {l : Launch} {D : va_G} {cI cJ : ClassId} {ad : Nat → Nat} {A : Nat → Prop} {adK adV : Nat → Nat} (hI : jx_inj 67 ad A) (x0 : Int32) (x1 : Int32) (v : jx_V) (r : Int32) (v' : jx_V) (hF : f_J9_min_7cf53 x0 x1 v = some (r, v')) : jx_Ci l D vwCl 67 cI cJ ad shX A (ex_X adK adV A) yJ9_min_7cf53 (Cond.code yJ9_min_7cf53 cJ9_min_7cf53 2 (some .int) :: bigT) rm_J9_min_7cf53 [.int x0, .int x1] v r v' := by
  unfold f_J9_min_7cf53 at hF
  refine jx_enteriF bigT RJ9 cJ9_min_7cf53 2 (some .int) [(0, .int x0), (1, .int x1)] hI (ex_X_ok adK adV A) (by decide +kernel) rfl (Nat.le_of_ble_eq_true rfl) rfl rfl ?_
  intro p e s m args below meth c E
  refine jx_iload_n E dJ9_min_7cf53_0 0 rfl ?_
  refine jx_iload_n E dJ9_min_7cf53_1 1 rfl ?_
  refine jx_icmp_gt (tgt := 9) E dJ9_min_7cf53_2 (by decide) (fun hc1 => ?_) (fun hc1 => ?_)
  · rw [if_pos hc1] at hF
    refine jx_iload_n E dJ9_min_7cf53_9 1 rfl ?_
    obtain ⟨rfl, rfl⟩ := jx_out hF
    exact jx_iret E dJ9_min_7cf53_10 rfl
  · rw [if_neg hc1] at hF
    refine jx_iload_n E dJ9_min_7cf53_5 0 rfl ?_
    refine jx_goto (tgt := 10) E dJ9_min_7cf53_6 (by decide) ?_
    obtain ⟨rfl, rfl⟩ := jx_out hF
    exact jx_iret E dJ9_min_7cf53_10 rfl
def f_X0_nextLot (x0 : Int32) (x1 : Int32) (v : jx_V) : Option (Int32 × jx_V) := (if 0 ≤ x0 then (if x1 = 0 then (if x0 < 5 then (some ((-1), v)) else (some ((x0 - 5), v))) else (if x1 = 1 then (if 4 ≤ (x0 - x0 / 5 * 5) then (some ((-1), v)) else (some ((x0 + 1), v))) else (if x1 = 2 then (if 20 ≤ x0 then (some ((-1), v)) else (some ((x0 + 5), v))) else (if (x0 - x0 / 5 * 5) ≤ 0 then (some ((-1), v)) else (some ((x0 - 1), v)))))) else (some ((-1), v)))
def rm_X0_nextLot : Room := { frames := 0, cells := 0, slots := 0, locals := 0 }
set_option maxHeartbeats 4000000 in
set_option maxRecDepth 100000 in
theorem k_X0_nextLot {l : Launch} {D : va_G} {cI cJ : ClassId} {ad : Nat → Nat} {A : Nat → Prop} {adK adV : Nat → Nat} (hI : jx_inj 67 ad A) (x0 : Int32) (x1 : Int32) (v : jx_V) (r : Int32) (v' : jx_V) (hF : f_X0_nextLot x0 x1 v = some (r, v')) : jx_Ci l D vwCl 67 cI cJ ad shX A (ex_X adK adV A) yX0_nextLot (Cond.code yX0_nextLot cX0_nextLot 2 (some .int) :: bigT) rm_X0_nextLot [.int x0, .int x1] v r v' := by
  unfold f_X0_nextLot at hF
  refine jx_enteri bigT RX0 cX0_nextLot 2 (some .int) [(0, .int x0), (1, .int x1)] hI (ex_X_ok adK adV A) (by decide +kernel) rfl (Nat.le_of_ble_eq_true rfl) rfl rfl ?_
  intro p e s m args below meth c E
  refine jx_iload_n E dX0_nextLot_0 0 rfl ?_
  refine jx_if_ge (tgt := 6) E dX0_nextLot_1 (by decide) (fun hc1 => ?_) (fun hc1 => ?_)
  · rw [if_pos hc1] at hF
    refine jx_iload_n E dX0_nextLot_6 1 rfl ?_
    by_cases hc2 : x1 = 0
    · rw [if_pos hc2] at hF
      refine jx_tableIn (tgt := 32) (z := 0) E dX0_nextLot_7 hc2 (by decide) (by decide) rfl (by decide) ?_
      refine jx_iload_n E dX0_nextLot_32 0 rfl ?_
      refine jx_iconst (x := 5) E dX0_nextLot_33 (by decide) ?_
      refine jx_icmp_lt (tgt := 43) E dX0_nextLot_34 (by decide) (fun hc3 => ?_) (fun hc3 => ?_)
      · rw [if_pos hc3] at hF
        refine jx_iconst (x := -1) E dX0_nextLot_43 (by decide) ?_
        obtain ⟨rfl, rfl⟩ := jx_out hF
        exact jx_iret E dX0_nextLot_44 rfl
      · rw [if_neg hc3] at hF
        refine jx_iload_n E dX0_nextLot_37 0 rfl ?_
        refine jx_iconst (x := 5) E dX0_nextLot_38 (by decide) ?_
        refine jx_isub E dX0_nextLot_39 ?_
        refine jx_goto (tgt := 44) E dX0_nextLot_40 (by decide) ?_
        obtain ⟨rfl, rfl⟩ := jx_out hF
        exact jx_iret E dX0_nextLot_44 rfl
    rw [if_neg hc2] at hF
    by_cases hc4 : x1 = 1
    · rw [if_pos hc4] at hF
      refine jx_tableIn (tgt := 45) (z := 1) E dX0_nextLot_7 hc4 (by decide) (by decide) rfl (by decide) ?_
      refine jx_iload_n E dX0_nextLot_45 0 rfl ?_
      refine jx_iconst (x := 5) E dX0_nextLot_46 (by decide) ?_
      refine jx_irem E dX0_nextLot_47 (by decide) ?_
      refine jx_iconst (x := 4) E dX0_nextLot_48 (by decide) ?_
      refine jx_icmp_ge (tgt := 58) E dX0_nextLot_49 (by decide) (fun hc5 => ?_) (fun hc5 => ?_)
      · rw [if_pos hc5] at hF
        refine jx_iconst (x := -1) E dX0_nextLot_58 (by decide) ?_
        obtain ⟨rfl, rfl⟩ := jx_out hF
        exact jx_iret E dX0_nextLot_59 rfl
      · rw [if_neg hc5] at hF
        refine jx_iload_n E dX0_nextLot_52 0 rfl ?_
        refine jx_iconst (x := 1) E dX0_nextLot_53 (by decide) ?_
        refine jx_iadd E dX0_nextLot_54 ?_
        refine jx_goto (tgt := 59) E dX0_nextLot_55 (by decide) ?_
        obtain ⟨rfl, rfl⟩ := jx_out hF
        exact jx_iret E dX0_nextLot_59 rfl
    rw [if_neg hc4] at hF
    by_cases hc6 : x1 = 2
    · rw [if_pos hc6] at hF
      refine jx_tableIn (tgt := 60) (z := 2) E dX0_nextLot_7 hc6 (by decide) (by decide) rfl (by decide) ?_
      refine jx_iload_n E dX0_nextLot_60 0 rfl ?_
      refine jx_bipush (x := 20) E dX0_nextLot_61 (by decide) ?_
      refine jx_icmp_ge (tgt := 72) E dX0_nextLot_63 (by decide) (fun hc7 => ?_) (fun hc7 => ?_)
      · rw [if_pos hc7] at hF
        refine jx_iconst (x := -1) E dX0_nextLot_72 (by decide) ?_
        obtain ⟨rfl, rfl⟩ := jx_out hF
        exact jx_iret E dX0_nextLot_73 rfl
      · rw [if_neg hc7] at hF
        refine jx_iload_n E dX0_nextLot_66 0 rfl ?_
        refine jx_iconst (x := 5) E dX0_nextLot_67 (by decide) ?_
        refine jx_iadd E dX0_nextLot_68 ?_
        refine jx_goto (tgt := 73) E dX0_nextLot_69 (by decide) ?_
        obtain ⟨rfl, rfl⟩ := jx_out hF
        exact jx_iret E dX0_nextLot_73 rfl
    rw [if_neg hc6] at hF
    refine jx_tableOut (tgt := 74) E dX0_nextLot_7 (by have hz2 := jx_ne hc2 (k := 0) (by decide); have hz4 := jx_ne hc4 (k := 1) (by decide); have hz6 := jx_ne hc6 (k := 2) (by decide); omega) (by decide) ?_
    refine jx_iload_n E dX0_nextLot_74 0 rfl ?_
    refine jx_iconst (x := 5) E dX0_nextLot_75 (by decide) ?_
    refine jx_irem E dX0_nextLot_76 (by decide) ?_
    refine jx_if_le (tgt := 86) E dX0_nextLot_77 (by decide) (fun hc8 => ?_) (fun hc8 => ?_)
    · rw [if_pos hc8] at hF
      refine jx_iconst (x := -1) E dX0_nextLot_86 (by decide) ?_
      obtain ⟨rfl, rfl⟩ := jx_out hF
      exact jx_iret E dX0_nextLot_87 rfl
    · rw [if_neg hc8] at hF
      refine jx_iload_n E dX0_nextLot_80 0 rfl ?_
      refine jx_iconst (x := 1) E dX0_nextLot_81 (by decide) ?_
      refine jx_isub E dX0_nextLot_82 ?_
      refine jx_goto (tgt := 87) E dX0_nextLot_83 (by decide) ?_
      obtain ⟨rfl, rfl⟩ := jx_out hF
      exact jx_iret E dX0_nextLot_87 rfl
  · rw [if_neg hc1] at hF
    refine jx_iconst (x := -1) E dX0_nextLot_4 (by decide) ?_
    obtain ⟨rfl, rfl⟩ := jx_out hF
    exact jx_iret E dX0_nextLot_5 rfl
def f_X3_isTaken (h0 : Nat) (x1 : Int32) (v : jx_V) : Option (Int32 × jx_V) := (if (x1 < 0 ∨ 25 ≤ Int32.toNatClampNeg x1) then none else (if (v (h0 + 3) (Int32.toNatClampNeg x1)) < 0 then (some (0, v)) else (some (1, v))))
def rm_X3_isTaken : Room := { frames := 0, cells := 0, slots := 0, locals := 0 }
set_option maxHeartbeats 4000000 in
set_option maxRecDepth 100000 in
theorem k_X3_isTaken {l : Launch} {D : va_G} {cI cJ : ClassId} {ad : Nat → Nat} {A : Nat → Prop} {adK adV : Nat → Nat} (hI : jx_inj 67 ad A) (h0 : Nat) (hT0 : jx_T h0) (x1 : Int32) (v : jx_V) (r : Int32) (v' : jx_V) (hF : f_X3_isTaken h0 x1 v = some (r, v')) : jx_Ci l D vwCl 67 cI cJ ad shX A (ex_X adK adV A) yX3_isTaken (Cond.code yX3_isTaken cX3_isTaken 2 (some .boolean) :: bigT) rm_X3_isTaken [.ref (ad h0), .int x1] v r v' := by
  unfold f_X3_isTaken at hF
  refine jx_enteri bigT RX3 cX3_isTaken 2 (some .boolean) [(0, .ref (ad h0)), (1, .int x1)] hI (ex_X_ok adK adV A) (by decide +kernel) rfl (Nat.le_of_ble_eq_true rfl) rfl rfl ?_
  intro p e s m args below meth c E
  have iX3 : ∀ w ∈ u_ws RX3 TX3 8, w ∈ (Cond.code yX3_isTaken cX3_isTaken 2 (some .boolean) :: bigT) := fun w h => List.mem_cons_of_mem _ (uw_X3 w h)
  refine jx_aload_n E dX3_isTaken_0 0 rfl ?_
  refine jx_getr (C := RX3) (T := TX3) (M := 8) (k := 0) E dX3_isTaken_1 (n_T0 hT0) (s_T0 hT0) rfl iX3 (by decide) rfl (List.mem_cons_of_mem _ tw_27) rfl ?_
  refine jx_iconst (x := 0) E dX3_isTaken_4 (by decide) ?_
  refine jx_aald (h' := (h0 + 3)) E dX3_isTaken_5 (n_T1 hT0) (s_T1 hT0) (show ¬ ((0 : Int32) < 0 ∨ 4 ≤ Int32.toNatClampNeg 0) by decide) rfl ?_
  refine jx_iload_n E dX3_isTaken_6 1 rfl ?_
  obtain ⟨hg1, hF⟩ := jx_guard hF
  refine jx_iald (h := (h0 + 3)) (j := (Int32.toNatClampNeg x1)) E dX3_isTaken_7 (n_T3 hT0) (s_T3 hT0) hg1 rfl ?_
  refine jx_if_lt (tgt := 15) E dX3_isTaken_8 (by decide) (fun hc2 => ?_) (fun hc2 => ?_)
  · rw [if_pos hc2] at hF
    refine jx_iconst (x := 0) E dX3_isTaken_15 (by decide) ?_
    obtain ⟨rfl, rfl⟩ := jx_out hF
    exact jx_zret E dX3_isTaken_16 rfl (Or.inl rfl)
  · rw [if_neg hc2] at hF
    refine jx_iconst (x := 1) E dX3_isTaken_11 (by decide) ?_
    refine jx_goto (tgt := 16) E dX3_isTaken_12 (by decide) ?_
    obtain ⟨rfl, rfl⟩ := jx_out hF
    exact jx_zret E dX3_isTaken_16 rfl (Or.inr rfl)
def f_X3_isSummer (h0 : Nat) (v : jx_V) : Option (Int32 × jx_V) := (if ((v h0 6) - (v h0 6) / 12 * 12) < 3 then (some (0, v)) else (if 8 < ((v h0 6) - (v h0 6) / 12 * 12) then (some (0, v)) else (some (1, v))))
def rm_X3_isSummer : Room := { frames := 0, cells := 0, slots := 0, locals := 0 }
set_option maxHeartbeats 4000000 in
set_option maxRecDepth 100000 in
theorem k_X3_isSummer {l : Launch} {D : va_G} {cI cJ : ClassId} {ad : Nat → Nat} {A : Nat → Prop} {adK adV : Nat → Nat} (hI : jx_inj 67 ad A) (h0 : Nat) (hT0 : jx_T h0) (v : jx_V) (r : Int32) (v' : jx_V) (hF : f_X3_isSummer h0 v = some (r, v')) : jx_Ci l D vwCl 67 cI cJ ad shX A (ex_X adK adV A) yX3_isSummer (Cond.code yX3_isSummer cX3_isSummer 2 (some .boolean) :: bigT) rm_X3_isSummer [.ref (ad h0)] v r v' := by
  unfold f_X3_isSummer at hF
  refine jx_enteri bigT RX3 cX3_isSummer 2 (some .boolean) [(0, .ref (ad h0))] hI (ex_X_ok adK adV A) (by decide +kernel) rfl (Nat.le_of_ble_eq_true rfl) rfl rfl ?_
  intro p e s m args below meth c E
  have iX3 : ∀ w ∈ u_ws RX3 TX3 8, w ∈ (Cond.code yX3_isSummer cX3_isSummer 2 (some .boolean) :: bigT) := fun w h => List.mem_cons_of_mem _ (uw_X3 w h)
  refine jx_aload_n E dX3_isSummer_0 0 rfl ?_
  refine jx_geti (C := RX3) (T := TX3) (M := 8) (k := 6) E dX3_isSummer_1 (n_T0 hT0) (s_T0 hT0) rfl iX3 (by decide) rfl (List.mem_cons_of_mem _ tw_28) rfl ?_
  refine jx_bipush (x := 12) E dX3_isSummer_4 (by decide) ?_
  refine jx_irem E dX3_isSummer_6 (by decide) ?_
  refine jx_istore_n (lv' := [(1, .int ((v h0 6) - (v h0 6) / 12 * 12)), (0, .ref (ad h0))]) E dX3_isSummer_7 (by decide) rfl ?_
  refine jx_iload_n E dX3_isSummer_8 0 rfl ?_
  refine jx_iconst (x := 3) E dX3_isSummer_9 (by decide) ?_
  refine jx_icmp_lt (tgt := 23) E dX3_isSummer_10 (by decide) (fun hc1 => ?_) (fun hc1 => ?_)
  · rw [if_pos hc1] at hF
    refine jx_iconst (x := 0) E dX3_isSummer_23 (by decide) ?_
    obtain ⟨rfl, rfl⟩ := jx_out hF
    exact jx_zret E dX3_isSummer_24 rfl (Or.inl rfl)
  · rw [if_neg hc1] at hF
    refine jx_iload_n E dX3_isSummer_13 0 rfl ?_
    refine jx_bipush (x := 8) E dX3_isSummer_14 (by decide) ?_
    refine jx_icmp_gt (tgt := 23) E dX3_isSummer_16 (by decide) (fun hc2 => ?_) (fun hc2 => ?_)
    · rw [if_pos hc2] at hF
      refine jx_iconst (x := 0) E dX3_isSummer_23 (by decide) ?_
      obtain ⟨rfl, rfl⟩ := jx_out hF
      exact jx_zret E dX3_isSummer_24 rfl (Or.inl rfl)
    · rw [if_neg hc2] at hF
      refine jx_iconst (x := 1) E dX3_isSummer_19 (by decide) ?_
      refine jx_goto (tgt := 24) E dX3_isSummer_20 (by decide) ?_
      obtain ⟨rfl, rfl⟩ := jx_out hF
      exact jx_zret E dX3_isSummer_24 rfl (Or.inr rfl)
def f_X3_standing (h0 : Nat) (x1 : Int32) (v : jx_V) : Option (Int32 × jx_V) := (if (x1 < 0 ∨ 25 ≤ Int32.toNatClampNeg x1) then none else (if (x1 < 0 ∨ 25 ≤ Int32.toNatClampNeg x1) then none else (if (v (h0 + 3) (Int32.toNatClampNeg x1)) = 1 then ((f_X3_isSummer h0 v).bind (fun (r4, v4) => (if r4 = 0 then ((f_J9_min_7cf53 9 ((v (h0 + 5) (Int32.toNatClampNeg x1)) + 0) v4).bind (fun (r6, v6) => (some (r6, v6)))) else ((f_J9_min_7cf53 9 ((v (h0 + 5) (Int32.toNatClampNeg x1)) + 2) v4).bind (fun (r7, v7) => (some (r7, v7))))))) else (if (v (h0 + 3) (Int32.toNatClampNeg x1)) = 2 then ((f_J9_min_7cf53 9 (v (h0 + 5) (Int32.toNatClampNeg x1)) v).bind (fun (r9, v9) => (some (r9, v9)))) else (if (v (h0 + 3) (Int32.toNatClampNeg x1)) = 3 then ((f_X3_isSummer h0 v).bind (fun (r11, v11) => (if r11 = 0 then ((f_J9_min_7cf53 9 ((v (h0 + 5) (Int32.toNatClampNeg x1)) + 0) v11).bind (fun (r13, v13) => (some (r13, v13)))) else ((f_J9_min_7cf53 9 ((v (h0 + 5) (Int32.toNatClampNeg x1)) + 2) v11).bind (fun (r14, v14) => (some (r14, v14))))))) else (if (v (h0 + 3) (Int32.toNatClampNeg x1)) = 4 then (if ((v h0 6) - (v h0 6) / 2 * 2) = 1 then ((f_J9_min_7cf53 9 0 v).bind (fun (r18, v18) => (some (r18, v18)))) else ((f_J9_min_7cf53 9 (v (h0 + 5) (Int32.toNatClampNeg x1)) v).bind (fun (r17, v17) => (some (r17, v17))))) else (if (v (h0 + 3) (Int32.toNatClampNeg x1)) = 5 then ((f_J9_min_7cf53 9 (v (h0 + 5) (Int32.toNatClampNeg x1)) v).bind (fun (r20, v20) => (some (r20, v20)))) else (if (v (h0 + 3) (Int32.toNatClampNeg x1)) = 6 then ((f_J9_min_7cf53 9 ((v (h0 + 5) (Int32.toNatClampNeg x1)) + 3) v).bind (fun (r22, v22) => (some (r22, v22)))) else ((f_J9_min_7cf53 9 (v (h0 + 5) (Int32.toNatClampNeg x1)) v).bind (fun (r23, v23) => (some (r23, v23))))))))))))
def rm_X3_standing : Room := { frames := 1, cells := 0, slots := 0, locals := 21 }
set_option maxHeartbeats 4000000 in
set_option maxRecDepth 100000 in
theorem k_X3_standing {l : Launch} {D : va_G} {cI cJ : ClassId} {ad : Nat → Nat} {A : Nat → Prop} {adK adV : Nat → Nat} (hI : jx_inj 67 ad A) (h0 : Nat) (hT0 : jx_T h0) (x1 : Int32) (v : jx_V) (r : Int32) (v' : jx_V) (hF : f_X3_standing h0 x1 v = some (r, v')) : jx_Ci l D vwCl 67 cI cJ ad shX A (ex_X adK adV A) yX3_standing (Cond.code yX3_standing cX3_standing 3 (some .int) :: bigT) rm_X3_standing [.ref (ad h0), .int x1] v r v' := by
  unfold f_X3_standing at hF
  refine jx_enteri bigT RX3 cX3_standing 3 (some .int) [(0, .ref (ad h0)), (1, .int x1)] hI (ex_X_ok adK adV A) (by decide +kernel) rfl (Nat.le_of_ble_eq_true rfl) rfl rfl ?_
  intro p e s m args below meth c E
  have iX3 : ∀ w ∈ u_ws RX3 TX3 8, w ∈ (Cond.code yX3_standing cX3_standing 3 (some .int) :: bigT) := fun w h => List.mem_cons_of_mem _ (uw_X3 w h)
  refine jx_aload_n E dX3_standing_0 0 rfl ?_
  refine jx_getr (C := RX3) (T := TX3) (M := 8) (k := 0) E dX3_standing_1 (n_T0 hT0) (s_T0 hT0) rfl iX3 (by decide) rfl (List.mem_cons_of_mem _ tw_27) rfl ?_
  refine jx_iconst (x := 2) E dX3_standing_4 (by decide) ?_
  refine jx_aald (h' := (h0 + 5)) E dX3_standing_5 (n_T1 hT0) (s_T1 hT0) (show ¬ ((2 : Int32) < 0 ∨ 4 ≤ Int32.toNatClampNeg 2) by decide) rfl ?_
  refine jx_iload_n E dX3_standing_6 1 rfl ?_
  obtain ⟨hg1, hF⟩ := jx_guard hF
  refine jx_iald (h := (h0 + 5)) (j := (Int32.toNatClampNeg x1)) E dX3_standing_7 (n_T5 hT0) (s_T5 hT0) hg1 rfl ?_
  refine jx_istore_n (lv' := [(2, .int (v (h0 + 5) (Int32.toNatClampNeg x1))), (0, .ref (ad h0)), (1, .int x1)]) E dX3_standing_8 (by decide) rfl ?_
  refine jx_aload_n E dX3_standing_9 1 rfl ?_
  refine jx_getr (C := RX3) (T := TX3) (M := 8) (k := 0) E dX3_standing_10 (n_T0 hT0) (s_T0 hT0) rfl iX3 (by decide) rfl (List.mem_cons_of_mem _ tw_27) rfl ?_
  refine jx_iconst (x := 0) E dX3_standing_13 (by decide) ?_
  refine jx_aald (h' := (h0 + 3)) E dX3_standing_14 (n_T1 hT0) (s_T1 hT0) (show ¬ ((0 : Int32) < 0 ∨ 4 ≤ Int32.toNatClampNeg 0) by decide) rfl ?_
  refine jx_iload_n E dX3_standing_15 2 rfl ?_
  obtain ⟨hg2, hF⟩ := jx_guard hF
  refine jx_iald (h := (h0 + 3)) (j := (Int32.toNatClampNeg x1)) E dX3_standing_16 (n_T3 hT0) (s_T3 hT0) hg2 rfl ?_
  by_cases hc3 : (v (h0 + 3) (Int32.toNatClampNeg x1)) = 1
  · rw [if_pos hc3] at hF
    refine jx_tableIn (tgt := 56) (z := 1) E dX3_standing_17 hc3 (by decide) (by decide) rfl (by decide) ?_
    refine jx_iload_n E dX3_standing_56 0 rfl ?_
    refine jx_aload_n E dX3_standing_57 1 rfl ?_
    obtain ⟨⟨r4, v4⟩, hc4, hF⟩ := jx_bind hF
    try dsimp only at hF
    refine jx_callVi (As := []) (st := [.int (v (h0 + 5) (Int32.toNatClampNeg x1))]) (h := h0) E dX3_standing_58 0 rfl (k_X3_isSummer hI h0 hT0 v r4 v4 hc4) (gb_V (List.mem_cons_of_mem _ tw_30) (List.mem_cons_of_mem _ tw_31) (List.mem_cons_of_mem _ tw_32) (List.mem_cons_of_mem _ tw_33) tw_29) rfl rfl rfl dd_X3_isSummer rfl (n_T0 hT0) (s_T0 hT0) rfl ⟨by decide, by decide⟩ ⟨Nat.le_refl 0, Nat.le_refl 0⟩ (Nat.le_of_ble_eq_true rfl) ?_
    refine jx_if_eq (tgt := 68) E dX3_standing_61 (by decide) (fun hc5 => ?_) (fun hc5 => ?_)
    · rw [if_pos hc5] at hF
      refine jx_iconst (x := 0) E dX3_standing_68 (by decide) ?_
      refine jx_iadd E dX3_standing_69 ?_
      refine jx_istore_n (lv' := [(2, .int ((v (h0 + 5) (Int32.toNatClampNeg x1)) + 0)), (0, .ref (ad h0)), (1, .int x1)]) E dX3_standing_70 (by decide) rfl ?_
      refine jx_goto (tgt := 99) E dX3_standing_71 (by decide) ?_
      refine jx_bipush (x := 9) E dX3_standing_99 (by decide) ?_
      refine jx_iload_n E dX3_standing_101 0 rfl ?_
      obtain ⟨⟨r6, v6⟩, hc6, hF⟩ := jx_bind hF
      try dsimp only at hF
      refine jx_callTi (As := [.int 9, .int ((v (h0 + 5) (Int32.toNatClampNeg x1)) + 0)]) (st := []) E dX3_standing_102 2 rfl (k_J9_min_7cf53 hI 9 ((v (h0 + 5) (Int32.toNatClampNeg x1)) + 0) v4 r6 v6 hc6) (gb_N tw_34) rfl rfl rfl (List.mem_cons_of_mem _ tw_35) (List.mem_cons_of_mem _ tw_36) (List.mem_cons_of_mem _ tw_37) dd_J9_min_7cf53.2 rfl ⟨by decide, by decide⟩ ⟨Nat.le_refl 0, Nat.le_refl 0⟩ (Nat.le_of_ble_eq_true rfl) ?_
      obtain ⟨rfl, rfl⟩ := jx_out hF
      exact jx_iret E dX3_standing_105 rfl
    · rw [if_neg hc5] at hF
      refine jx_iconst (x := 2) E dX3_standing_64 (by decide) ?_
      refine jx_goto (tgt := 69) E dX3_standing_65 (by decide) ?_
      refine jx_iadd E dX3_standing_69 ?_
      refine jx_istore_n (lv' := [(2, .int ((v (h0 + 5) (Int32.toNatClampNeg x1)) + 2)), (0, .ref (ad h0)), (1, .int x1)]) E dX3_standing_70 (by decide) rfl ?_
      refine jx_goto (tgt := 99) E dX3_standing_71 (by decide) ?_
      refine jx_bipush (x := 9) E dX3_standing_99 (by decide) ?_
      refine jx_iload_n E dX3_standing_101 0 rfl ?_
      obtain ⟨⟨r7, v7⟩, hc7, hF⟩ := jx_bind hF
      try dsimp only at hF
      refine jx_callTi (As := [.int 9, .int ((v (h0 + 5) (Int32.toNatClampNeg x1)) + 2)]) (st := []) E dX3_standing_102 2 rfl (k_J9_min_7cf53 hI 9 ((v (h0 + 5) (Int32.toNatClampNeg x1)) + 2) v4 r7 v7 hc7) (gb_N tw_34) rfl rfl rfl (List.mem_cons_of_mem _ tw_35) (List.mem_cons_of_mem _ tw_36) (List.mem_cons_of_mem _ tw_37) dd_J9_min_7cf53.2 rfl ⟨by decide, by decide⟩ ⟨Nat.le_refl 0, Nat.le_refl 0⟩ (Nat.le_of_ble_eq_true rfl) ?_
      obtain ⟨rfl, rfl⟩ := jx_out hF
      exact jx_iret E dX3_standing_105 rfl
  rw [if_neg hc3] at hF
  by_cases hc8 : (v (h0 + 3) (Int32.toNatClampNeg x1)) = 2
  · rw [if_pos hc8] at hF
    refine jx_tableIn (tgt := 99) (z := 2) E dX3_standing_17 hc8 (by decide) (by decide) rfl (by decide) ?_
    refine jx_bipush (x := 9) E dX3_standing_99 (by decide) ?_
    refine jx_iload_n E dX3_standing_101 0 rfl ?_
    obtain ⟨⟨r9, v9⟩, hc9, hF⟩ := jx_bind hF
    try dsimp only at hF
    refine jx_callTi (As := [.int 9, .int (v (h0 + 5) (Int32.toNatClampNeg x1))]) (st := []) E dX3_standing_102 2 rfl (k_J9_min_7cf53 hI 9 (v (h0 + 5) (Int32.toNatClampNeg x1)) v r9 v9 hc9) (gb_N tw_34) rfl rfl rfl (List.mem_cons_of_mem _ tw_35) (List.mem_cons_of_mem _ tw_36) (List.mem_cons_of_mem _ tw_37) dd_J9_min_7cf53.2 rfl ⟨by decide, by decide⟩ ⟨Nat.le_refl 0, Nat.le_refl 0⟩ (Nat.le_of_ble_eq_true rfl) ?_
    obtain ⟨rfl, rfl⟩ := jx_out hF
    exact jx_iret E dX3_standing_105 rfl
  rw [if_neg hc8] at hF
  by_cases hc10 : (v (h0 + 3) (Int32.toNatClampNeg x1)) = 3
  · rw [if_pos hc10] at hF
    refine jx_tableIn (tgt := 56) (z := 3) E dX3_standing_17 hc10 (by decide) (by decide) rfl (by decide) ?_
    refine jx_iload_n E dX3_standing_56 0 rfl ?_
    refine jx_aload_n E dX3_standing_57 1 rfl ?_
    obtain ⟨⟨r11, v11⟩, hc11, hF⟩ := jx_bind hF
    try dsimp only at hF
    refine jx_callVi (As := []) (st := [.int (v (h0 + 5) (Int32.toNatClampNeg x1))]) (h := h0) E dX3_standing_58 0 rfl (k_X3_isSummer hI h0 hT0 v r11 v11 hc11) (gb_V (List.mem_cons_of_mem _ tw_30) (List.mem_cons_of_mem _ tw_31) (List.mem_cons_of_mem _ tw_32) (List.mem_cons_of_mem _ tw_33) tw_29) rfl rfl rfl dd_X3_isSummer rfl (n_T0 hT0) (s_T0 hT0) rfl ⟨by decide, by decide⟩ ⟨Nat.le_refl 0, Nat.le_refl 0⟩ (Nat.le_of_ble_eq_true rfl) ?_
    refine jx_if_eq (tgt := 68) E dX3_standing_61 (by decide) (fun hc12 => ?_) (fun hc12 => ?_)
    · rw [if_pos hc12] at hF
      refine jx_iconst (x := 0) E dX3_standing_68 (by decide) ?_
      refine jx_iadd E dX3_standing_69 ?_
      refine jx_istore_n (lv' := [(2, .int ((v (h0 + 5) (Int32.toNatClampNeg x1)) + 0)), (0, .ref (ad h0)), (1, .int x1)]) E dX3_standing_70 (by decide) rfl ?_
      refine jx_goto (tgt := 99) E dX3_standing_71 (by decide) ?_
      refine jx_bipush (x := 9) E dX3_standing_99 (by decide) ?_
      refine jx_iload_n E dX3_standing_101 0 rfl ?_
      obtain ⟨⟨r13, v13⟩, hc13, hF⟩ := jx_bind hF
      try dsimp only at hF
      refine jx_callTi (As := [.int 9, .int ((v (h0 + 5) (Int32.toNatClampNeg x1)) + 0)]) (st := []) E dX3_standing_102 2 rfl (k_J9_min_7cf53 hI 9 ((v (h0 + 5) (Int32.toNatClampNeg x1)) + 0) v11 r13 v13 hc13) (gb_N tw_34) rfl rfl rfl (List.mem_cons_of_mem _ tw_35) (List.mem_cons_of_mem _ tw_36) (List.mem_cons_of_mem _ tw_37) dd_J9_min_7cf53.2 rfl ⟨by decide, by decide⟩ ⟨Nat.le_refl 0, Nat.le_refl 0⟩ (Nat.le_of_ble_eq_true rfl) ?_
      obtain ⟨rfl, rfl⟩ := jx_out hF
      exact jx_iret E dX3_standing_105 rfl
    · rw [if_neg hc12] at hF
      refine jx_iconst (x := 2) E dX3_standing_64 (by decide) ?_
      refine jx_goto (tgt := 69) E dX3_standing_65 (by decide) ?_
      refine jx_iadd E dX3_standing_69 ?_
      refine jx_istore_n (lv' := [(2, .int ((v (h0 + 5) (Int32.toNatClampNeg x1)) + 2)), (0, .ref (ad h0)), (1, .int x1)]) E dX3_standing_70 (by decide) rfl ?_
      refine jx_goto (tgt := 99) E dX3_standing_71 (by decide) ?_
      refine jx_bipush (x := 9) E dX3_standing_99 (by decide) ?_
      refine jx_iload_n E dX3_standing_101 0 rfl ?_
      obtain ⟨⟨r14, v14⟩, hc14, hF⟩ := jx_bind hF
      try dsimp only at hF
      refine jx_callTi (As := [.int 9, .int ((v (h0 + 5) (Int32.toNatClampNeg x1)) + 2)]) (st := []) E dX3_standing_102 2 rfl (k_J9_min_7cf53 hI 9 ((v (h0 + 5) (Int32.toNatClampNeg x1)) + 2) v11 r14 v14 hc14) (gb_N tw_34) rfl rfl rfl (List.mem_cons_of_mem _ tw_35) (List.mem_cons_of_mem _ tw_36) (List.mem_cons_of_mem _ tw_37) dd_J9_min_7cf53.2 rfl ⟨by decide, by decide⟩ ⟨Nat.le_refl 0, Nat.le_refl 0⟩ (Nat.le_of_ble_eq_true rfl) ?_
      obtain ⟨rfl, rfl⟩ := jx_out hF
      exact jx_iret E dX3_standing_105 rfl
  rw [if_neg hc10] at hF
  by_cases hc15 : (v (h0 + 3) (Int32.toNatClampNeg x1)) = 4
  · rw [if_pos hc15] at hF
    refine jx_tableIn (tgt := 74) (z := 4) E dX3_standing_17 hc15 (by decide) (by decide) rfl (by decide) ?_
    refine jx_aload_n E dX3_standing_74 1 rfl ?_
    refine jx_geti (C := RX3) (T := TX3) (M := 8) (k := 6) E dX3_standing_75 (n_T0 hT0) (s_T0 hT0) rfl iX3 (by decide) rfl (List.mem_cons_of_mem _ tw_28) rfl ?_
    refine jx_iconst (x := 2) E dX3_standing_78 (by decide) ?_
    refine jx_irem E dX3_standing_79 (by decide) ?_
    refine jx_iconst (x := 1) E dX3_standing_80 (by decide) ?_
    refine jx_icmp_ne (tgt := 88) E dX3_standing_81 (by decide) (fun hc16 => ?_) (fun hc16 => ?_)
    · rw [if_neg hc16] at hF
      refine jx_iload_n E dX3_standing_88 0 rfl ?_
      refine jx_istore_n (lv' := [(2, .int (v (h0 + 5) (Int32.toNatClampNeg x1))), (0, .ref (ad h0)), (1, .int x1)]) E dX3_standing_89 (by decide) rfl ?_
      refine jx_goto (tgt := 99) E dX3_standing_90 (by decide) ?_
      refine jx_bipush (x := 9) E dX3_standing_99 (by decide) ?_
      refine jx_iload_n E dX3_standing_101 0 rfl ?_
      obtain ⟨⟨r17, v17⟩, hc17, hF⟩ := jx_bind hF
      try dsimp only at hF
      refine jx_callTi (As := [.int 9, .int (v (h0 + 5) (Int32.toNatClampNeg x1))]) (st := []) E dX3_standing_102 2 rfl (k_J9_min_7cf53 hI 9 (v (h0 + 5) (Int32.toNatClampNeg x1)) v r17 v17 hc17) (gb_N tw_34) rfl rfl rfl (List.mem_cons_of_mem _ tw_35) (List.mem_cons_of_mem _ tw_36) (List.mem_cons_of_mem _ tw_37) dd_J9_min_7cf53.2 rfl ⟨by decide, by decide⟩ ⟨Nat.le_refl 0, Nat.le_refl 0⟩ (Nat.le_of_ble_eq_true rfl) ?_
      obtain ⟨rfl, rfl⟩ := jx_out hF
      exact jx_iret E dX3_standing_105 rfl
    · rw [if_pos hc16] at hF
      refine jx_iconst (x := 0) E dX3_standing_84 (by decide) ?_
      refine jx_goto (tgt := 89) E dX3_standing_85 (by decide) ?_
      refine jx_istore_n (lv' := [(2, .int 0), (0, .ref (ad h0)), (1, .int x1)]) E dX3_standing_89 (by decide) rfl ?_
      refine jx_goto (tgt := 99) E dX3_standing_90 (by decide) ?_
      refine jx_bipush (x := 9) E dX3_standing_99 (by decide) ?_
      refine jx_iload_n E dX3_standing_101 0 rfl ?_
      obtain ⟨⟨r18, v18⟩, hc18, hF⟩ := jx_bind hF
      try dsimp only at hF
      refine jx_callTi (As := [.int 9, .int 0]) (st := []) E dX3_standing_102 2 rfl (k_J9_min_7cf53 hI 9 0 v r18 v18 hc18) (gb_N tw_34) rfl rfl rfl (List.mem_cons_of_mem _ tw_35) (List.mem_cons_of_mem _ tw_36) (List.mem_cons_of_mem _ tw_37) dd_J9_min_7cf53.2 rfl ⟨by decide, by decide⟩ ⟨Nat.le_refl 0, Nat.le_refl 0⟩ (Nat.le_of_ble_eq_true rfl) ?_
      obtain ⟨rfl, rfl⟩ := jx_out hF
      exact jx_iret E dX3_standing_105 rfl
  rw [if_neg hc15] at hF
  by_cases hc19 : (v (h0 + 3) (Int32.toNatClampNeg x1)) = 5
  · rw [if_pos hc19] at hF
    refine jx_tableIn (tgt := 99) (z := 5) E dX3_standing_17 hc19 (by decide) (by decide) rfl (by decide) ?_
    refine jx_bipush (x := 9) E dX3_standing_99 (by decide) ?_
    refine jx_iload_n E dX3_standing_101 0 rfl ?_
    obtain ⟨⟨r20, v20⟩, hc20, hF⟩ := jx_bind hF
    try dsimp only at hF
    refine jx_callTi (As := [.int 9, .int (v (h0 + 5) (Int32.toNatClampNeg x1))]) (st := []) E dX3_standing_102 2 rfl (k_J9_min_7cf53 hI 9 (v (h0 + 5) (Int32.toNatClampNeg x1)) v r20 v20 hc20) (gb_N tw_34) rfl rfl rfl (List.mem_cons_of_mem _ tw_35) (List.mem_cons_of_mem _ tw_36) (List.mem_cons_of_mem _ tw_37) dd_J9_min_7cf53.2 rfl ⟨by decide, by decide⟩ ⟨Nat.le_refl 0, Nat.le_refl 0⟩ (Nat.le_of_ble_eq_true rfl) ?_
    obtain ⟨rfl, rfl⟩ := jx_out hF
    exact jx_iret E dX3_standing_105 rfl
  rw [if_neg hc19] at hF
  by_cases hc21 : (v (h0 + 3) (Int32.toNatClampNeg x1)) = 6
  · rw [if_pos hc21] at hF
    refine jx_tableIn (tgt := 93) (z := 6) E dX3_standing_17 hc21 (by decide) (by decide) rfl (by decide) ?_
    refine jx_iinc (y := ((v (h0 + 5) (Int32.toNatClampNeg x1)) + 3)) (lv' := [(2, .int ((v (h0 + 5) (Int32.toNatClampNeg x1)) + 3)), (0, .ref (ad h0)), (1, .int x1)]) E dX3_standing_93 0 rfl rfl (by decide) rfl ?_
    refine jx_goto (tgt := 99) E dX3_standing_96 (by decide) ?_
    refine jx_bipush (x := 9) E dX3_standing_99 (by decide) ?_
    refine jx_iload_n E dX3_standing_101 0 rfl ?_
    obtain ⟨⟨r22, v22⟩, hc22, hF⟩ := jx_bind hF
    try dsimp only at hF
    refine jx_callTi (As := [.int 9, .int ((v (h0 + 5) (Int32.toNatClampNeg x1)) + 3)]) (st := []) E dX3_standing_102 2 rfl (k_J9_min_7cf53 hI 9 ((v (h0 + 5) (Int32.toNatClampNeg x1)) + 3) v r22 v22 hc22) (gb_N tw_34) rfl rfl rfl (List.mem_cons_of_mem _ tw_35) (List.mem_cons_of_mem _ tw_36) (List.mem_cons_of_mem _ tw_37) dd_J9_min_7cf53.2 rfl ⟨by decide, by decide⟩ ⟨Nat.le_refl 0, Nat.le_refl 0⟩ (Nat.le_of_ble_eq_true rfl) ?_
    obtain ⟨rfl, rfl⟩ := jx_out hF
    exact jx_iret E dX3_standing_105 rfl
  rw [if_neg hc21] at hF
  refine jx_tableOut (tgt := 99) E dX3_standing_17 (by have hz3 := jx_ne hc3 (k := 1) (by decide); have hz8 := jx_ne hc8 (k := 2) (by decide); have hz10 := jx_ne hc10 (k := 3) (by decide); have hz15 := jx_ne hc15 (k := 4) (by decide); have hz19 := jx_ne hc19 (k := 5) (by decide); have hz21 := jx_ne hc21 (k := 6) (by decide); omega) (by decide) ?_
  refine jx_bipush (x := 9) E dX3_standing_99 (by decide) ?_
  refine jx_iload_n E dX3_standing_101 0 rfl ?_
  obtain ⟨⟨r23, v23⟩, hc23, hF⟩ := jx_bind hF
  try dsimp only at hF
  refine jx_callTi (As := [.int 9, .int (v (h0 + 5) (Int32.toNatClampNeg x1))]) (st := []) E dX3_standing_102 2 rfl (k_J9_min_7cf53 hI 9 (v (h0 + 5) (Int32.toNatClampNeg x1)) v r23 v23 hc23) (gb_N tw_34) rfl rfl rfl (List.mem_cons_of_mem _ tw_35) (List.mem_cons_of_mem _ tw_36) (List.mem_cons_of_mem _ tw_37) dd_J9_min_7cf53.2 rfl ⟨by decide, by decide⟩ ⟨Nat.le_refl 0, Nat.le_refl 0⟩ (Nat.le_of_ble_eq_true rfl) ?_
  obtain ⟨rfl, rfl⟩ := jx_out hF
  exact jx_iret E dX3_standing_105 rfl
def f_X0_lowestSeen_L  : Nat → Int32 → Int32 → Int32 → Int32 → jx_V → Option (Int32 × jx_V)
  | 0, _, _, _, _, _ => none
  | n + 1, x1, x2, x3, x4, v => (if x1 ≤ x4 then (some (x3, v)) else (if (x4 < 0 ∨ 5 ≤ Int32.toNatClampNeg x4) then none else (if (v 50 (Int32.toNatClampNeg x4)) < 0 then (f_X0_lowestSeen_L n x1 x2 x3 (x4 + 1) v) else (if (x4 < 0 ∨ 5 ≤ Int32.toNatClampNeg x4) then none else ((f_J9_floorDiv_7cf53 ((((2 * (v 51 (Int32.toNatClampNeg x4))) - (2 * x2)) - 1) * x1) (2 * x4) v).bind (fun (r5, v5) => ((f_J9_max_7cf53 x3 ((x2 + r5) + 1) v5).bind (fun (r6, v6) => (f_X0_lowestSeen_L n x1 x2 r6 (x4 + 1) v6)))))))))
def f_X0_lowestSeen (x1 : Int32) (x2 : Int32) (v : jx_V) : Option (Int32 × jx_V) := (f_X0_lowestSeen_L 100000 x1 x2 0 1 v)
def rm_X0_lowestSeen : Room := { frames := 1, cells := 0, slots := 0, locals := 22 }
set_option maxHeartbeats 4000000 in
set_option maxRecDepth 100000 in
theorem k_X0_lowestSeen {l : Launch} {D : va_G} {cI cJ : ClassId} {ad : Nat → Nat} {A : Nat → Prop} {adK adV : Nat → Nat} (hI : jx_inj 67 ad A) (x1 : Int32) (x2 : Int32) (v : jx_V) (r : Int32) (v' : jx_V) (hF : f_X0_lowestSeen x1 x2 v = some (r, v')) : jx_Ci l D vwCl 67 cI cJ ad shX A (ex_X adK adV A) yX0_lowestSeen (Cond.code yX0_lowestSeen cX0_lowestSeen 6 (some .int) :: bigT) rm_X0_lowestSeen [.ref (ad 49), .int x1, .int x2] v r v' := by
  unfold f_X0_lowestSeen at hF
  refine jx_enteri bigT RX0 cX0_lowestSeen 6 (some .int) [(0, .ref (ad 49)), (1, .int x1), (2, .int x2)] hI (ex_X_ok adK adV A) (by decide +kernel) rfl (Nat.le_of_ble_eq_true rfl) rfl rfl ?_
  intro p e s m args below meth c E
  have iX0 : ∀ w ∈ u_ws RX0 TX0 3, w ∈ (Cond.code yX0_lowestSeen cX0_lowestSeen 6 (some .int) :: bigT) := fun w h => List.mem_cons_of_mem _ (uw_X0 w h)
  have key : ∀ n : Nat, (∀ (x1 : Int32) (x2 : Int32) (x3 : Int32) (x4 : Int32) (v : jx_V), f_X0_lowestSeen_L  n  x1 x2 x3 x4 v = some (r, v') → jx_J p l e rm_X0_lowestSeen s m args below meth c D vwCl 67 cI cJ ad shX A 0 0 6 (MQ below (va_Qi (fun (r1 : Int32) (_ : Unit) => r1 = r) (fun _ t => va_P D vwCl (jx_ws 67 cI cJ ad shX v') t.heap) A) args s 0 0 A) v 5 [(0, .ref (ad 49)), (1, .int x1), (2, .int x2), (3, .int x3), (4, .int x4)] []) := by
    intro n
    induction n with
    | zero =>
      exact (fun _ _ _ _ _ h => by cases h)
    | succ n ih =>
      intro x1 x2 x3 x4 v hF
      rw [f_X0_lowestSeen_L] at hF
      refine jx_iload E dX0_lowestSeen_5 4 rfl ?_
      refine jx_iload_n E dX0_lowestSeen_7 1 rfl ?_
      refine jx_icmp_ge (tgt := 64) E dX0_lowestSeen_8 (by decide) (fun hc1 => ?_) (fun hc1 => ?_)
      · rw [if_pos hc1] at hF
        refine jx_iload_n E dX0_lowestSeen_64 3 rfl ?_
        obtain ⟨rfl, rfl⟩ := jx_out hF
        exact jx_iret E dX0_lowestSeen_65 rfl
      · rw [if_neg hc1] at hF
        refine jx_aload_n E dX0_lowestSeen_11 0 rfl ?_
        refine jx_getr (C := RX0) (T := TX0) (M := 3) (k := 0) E dX0_lowestSeen_12 (Nat.le_of_ble_eq_true rfl) s_X49 rfl iX0 (by decide) rfl (List.mem_cons_of_mem _ tw_38) rfl ?_
        refine jx_iload E dX0_lowestSeen_15 4 rfl ?_
        obtain ⟨hg2, hF⟩ := jx_guard hF
        refine jx_iald (h := 50) (j := (Int32.toNatClampNeg x4)) E dX0_lowestSeen_17 (Nat.le_of_ble_eq_true rfl) s_X50 hg2 rfl ?_
        refine jx_if_lt (tgt := 58) E dX0_lowestSeen_18 (by decide) (fun hc3 => ?_) (fun hc3 => ?_)
        · rw [if_pos hc3] at hF
          refine jx_iinc (y := (x4 + 1)) (lv' := [(4, .int (x4 + 1)), (0, .ref (ad 49)), (1, .int x1), (2, .int x2), (3, .int x3)]) E dX0_lowestSeen_58 4 rfl rfl (by decide) rfl ?_
          refine jx_goto (tgt := 5) E dX0_lowestSeen_61 (by decide) ?_
          refine jx_sub [1, 2, 3, 4, 0] rfl ?_
          exact ih x1 x2 x3 (x4 + 1) v hF
        · rw [if_neg hc3] at hF
          refine jx_iconst (x := 2) E dX0_lowestSeen_21 (by decide) ?_
          refine jx_aload_n E dX0_lowestSeen_22 0 rfl ?_
          refine jx_getr (C := RX0) (T := TX0) (M := 3) (k := 1) E dX0_lowestSeen_23 (Nat.le_of_ble_eq_true rfl) s_X49 rfl iX0 (by decide) rfl (List.mem_cons_of_mem _ tw_39) rfl ?_
          refine jx_iload E dX0_lowestSeen_26 4 rfl ?_
          obtain ⟨hg4, hF⟩ := jx_guard hF
          refine jx_iald (h := 51) (j := (Int32.toNatClampNeg x4)) E dX0_lowestSeen_28 (Nat.le_of_ble_eq_true rfl) s_X51 hg4 rfl ?_
          refine jx_imul E dX0_lowestSeen_29 ?_
          refine jx_iconst (x := 2) E dX0_lowestSeen_30 (by decide) ?_
          refine jx_iload_n E dX0_lowestSeen_31 2 rfl ?_
          refine jx_imul E dX0_lowestSeen_32 ?_
          refine jx_isub E dX0_lowestSeen_33 ?_
          refine jx_iconst (x := 1) E dX0_lowestSeen_34 (by decide) ?_
          refine jx_isub E dX0_lowestSeen_35 ?_
          refine jx_iload_n E dX0_lowestSeen_36 1 rfl ?_
          refine jx_imul E dX0_lowestSeen_37 ?_
          refine jx_istore (lv' := [(5, .int ((((2 * (v 51 (Int32.toNatClampNeg x4))) - (2 * x2)) - 1) * x1)), (0, .ref (ad 49)), (1, .int x1), (2, .int x2), (3, .int x3), (4, .int x4)]) E dX0_lowestSeen_38 (by decide) rfl ?_
          refine jx_iload_n E dX0_lowestSeen_40 4 rfl ?_
          refine jx_iload_n E dX0_lowestSeen_41 3 rfl ?_
          refine jx_iload E dX0_lowestSeen_42 0 rfl ?_
          refine jx_iconst (x := 2) E dX0_lowestSeen_44 (by decide) ?_
          refine jx_iload E dX0_lowestSeen_45 5 rfl ?_
          refine jx_imul E dX0_lowestSeen_47 ?_
          obtain ⟨⟨r5, v5⟩, hc5, hF⟩ := jx_bind hF
          try dsimp only at hF
          refine jx_callTi (As := [.int ((((2 * (v 51 (Int32.toNatClampNeg x4))) - (2 * x2)) - 1) * x1), .int (2 * x4)]) (st := [.int x2, .int x3]) E dX0_lowestSeen_48 2 rfl (k_J9_floorDiv_7cf53 hI ((((2 * (v 51 (Int32.toNatClampNeg x4))) - (2 * x2)) - 1) * x1) (2 * x4) v r5 v5 hc5) (gb_N tw_40) rfl rfl rfl (List.mem_cons_of_mem _ tw_41) (List.mem_cons_of_mem _ tw_42) (List.mem_cons_of_mem _ tw_37) dd_J9_floorDiv_7cf53.2 rfl ⟨by decide, by decide⟩ ⟨Nat.le_refl 0, Nat.le_refl 0⟩ (Nat.le_of_ble_eq_true rfl) ?_
          refine jx_iadd E dX0_lowestSeen_51 ?_
          refine jx_iconst (x := 1) E dX0_lowestSeen_52 (by decide) ?_
          refine jx_iadd E dX0_lowestSeen_53 ?_
          obtain ⟨⟨r6, v6⟩, hc6, hF⟩ := jx_bind hF
          try dsimp only at hF
          refine jx_callTi (As := [.int x3, .int ((x2 + r5) + 1)]) (st := []) E dX0_lowestSeen_54 2 rfl (k_J9_max_7cf53 hI x3 ((x2 + r5) + 1) v5 r6 v6 hc6) (gb_N tw_43) rfl rfl rfl (List.mem_cons_of_mem _ tw_44) (List.mem_cons_of_mem _ tw_45) (List.mem_cons_of_mem _ tw_37) dd_J9_max_7cf53.2 rfl ⟨by decide, by decide⟩ ⟨Nat.le_refl 0, Nat.le_refl 0⟩ (Nat.le_of_ble_eq_true rfl) ?_
          refine jx_istore_n (lv' := [(3, .int r6), (5, .int ((((2 * (v 51 (Int32.toNatClampNeg x4))) - (2 * x2)) - 1) * x1)), (0, .ref (ad 49)), (1, .int x1), (2, .int x2), (4, .int x4)]) E dX0_lowestSeen_57 (by decide) rfl ?_
          refine jx_iinc (y := (x4 + 1)) (lv' := [(4, .int (x4 + 1)), (3, .int r6), (5, .int ((((2 * (v 51 (Int32.toNatClampNeg x4))) - (2 * x2)) - 1) * x1)), (0, .ref (ad 49)), (1, .int x1), (2, .int x2)]) E dX0_lowestSeen_58 5 rfl rfl (by decide) rfl ?_
          refine jx_goto (tgt := 5) E dX0_lowestSeen_61 (by decide) ?_
          refine jx_sub [3, 4, 5, 1, 0] rfl ?_
          exact ih x1 x2 r6 (x4 + 1) v6 hF
  refine jx_iconst (x := 0) E dX0_lowestSeen_0 (by decide) ?_
  refine jx_istore_n (lv' := [(3, .int 0), (0, .ref (ad 49)), (1, .int x1), (2, .int x2)]) E dX0_lowestSeen_1 (by decide) rfl ?_
  refine jx_iconst (x := 1) E dX0_lowestSeen_2 (by decide) ?_
  refine jx_istore (lv' := [(4, .int 1), (3, .int 0), (0, .ref (ad 49)), (1, .int x1), (2, .int x2)]) E dX0_lowestSeen_3 (by decide) rfl ?_
  refine jx_sub [2, 3, 4, 1, 0] rfl ?_
  exact (key 100000) x1 x2 0 1 v hF
def f_X0_look_L (h1 : Nat) : Nat → Int32 → Int32 → Int32 → Int32 → Int32 → jx_V → Option (jx_V)
  | 0, _, _, _, _, _, _ => none
  | n + 1, x2, x3, x4, x5, x6, v => (if 4 < x6 then (some v) else ((f_X0_nextLot x5 x4 v).bind (fun (r5, v5) => (if r5 < 0 then (if (x6 < 0 ∨ 5 ≤ Int32.toNatClampNeg x6) then none else (if (x6 < 0 ∨ 5 ≤ Int32.toNatClampNeg x6) then none else (if (x6 < 0 ∨ 5 ≤ Int32.toNatClampNeg x6) then none else (f_X0_look_L h1 n x2 x3 x4 r5 (x6 + 1) (jx_up (jx_up (jx_up v5 50 (Int32.toNatClampNeg x6) (-1)) 51 (Int32.toNatClampNeg x6) 0) 52 (Int32.toNatClampNeg x6) 0))))) else ((f_X3_isTaken h1 r5 v5).bind (fun (r10, v10) => (if r10 = 0 then (if (x6 < 0 ∨ 5 ≤ Int32.toNatClampNeg x6) then none else (if (x6 < 0 ∨ 5 ≤ Int32.toNatClampNeg x6) then none else (if (x6 < 0 ∨ 5 ≤ Int32.toNatClampNeg x6) then none else (f_X0_look_L h1 n x2 x3 x4 r5 (x6 + 1) (jx_up (jx_up (jx_up v10 50 (Int32.toNatClampNeg x6) (-1)) 51 (Int32.toNatClampNeg x6) 0) 52 (Int32.toNatClampNeg x6) 0))))) else (if (x6 < 0 ∨ 5 ≤ Int32.toNatClampNeg x6) then none else ((f_X3_standing h1 r5 (jx_up v10 50 (Int32.toNatClampNeg x6) r5)).bind (fun (r16, v16) => (if (x6 < 0 ∨ 5 ≤ Int32.toNatClampNeg x6) then none else ((f_X0_lowestSeen x6 x3 (jx_up v16 51 (Int32.toNatClampNeg x6) r16)).bind (fun (r18, v18) => (if (x6 < 0 ∨ 5 ≤ Int32.toNatClampNeg x6) then none else (f_X0_look_L h1 n x2 x3 x4 r5 (x6 + 1) (jx_up v18 52 (Int32.toNatClampNeg x6) r18))))))))))))))))
def f_X0_look (h1 : Nat) (x2 : Int32) (v : jx_V) : Option (jx_V) := (if (x2 < 0 ∨ 10 ≤ Int32.toNatClampNeg x2) then none else (if (x2 < 0 ∨ 10 ≤ Int32.toNatClampNeg x2) then none else (if (x2 < 0 ∨ 10 ≤ Int32.toNatClampNeg x2) then none else (f_X0_look_L h1 100000 x2 (v (h1 + 8) (Int32.toNatClampNeg x2)) (v (h1 + 9) (Int32.toNatClampNeg x2)) (v (h1 + 7) (Int32.toNatClampNeg x2)) 1 v))))
def rm_X0_look : Room := { frames := 2, cells := 0, slots := 0, locals := 47 }
set_option maxHeartbeats 4000000 in
set_option maxRecDepth 100000 in
theorem k_X0_look {l : Launch} {D : va_G} {cI cJ : ClassId} {ad : Nat → Nat} {A : Nat → Prop} {adK adV : Nat → Nat} (hI : jx_inj 67 ad A) (h1 : Nat) (hT1 : jx_T h1) (x2 : Int32) (v : jx_V) (v' : jx_V) (hF : f_X0_look h1 x2 v = some v') : jx_Cv l D vwCl 67 cI cJ ad shX A (ex_X adK adV A) yX0_look (Cond.code yX0_look cX0_look 7 (none) :: bigT) rm_X0_look [.ref (ad 49), .ref (ad h1), .int x2] v v' := by
  unfold f_X0_look at hF
  refine jx_enterv bigT RX0 cX0_look 7 (none) [(0, .ref (ad 49)), (1, .ref (ad h1)), (2, .int x2)] hI (ex_X_ok adK adV A) (by decide +kernel) rfl (Nat.le_of_ble_eq_true rfl) rfl rfl ?_
  intro p e s m args below meth c E
  have iX0 : ∀ w ∈ u_ws RX0 TX0 3, w ∈ (Cond.code yX0_look cX0_look 7 (none) :: bigT) := fun w h => List.mem_cons_of_mem _ (uw_X0 w h)
  have iX3 : ∀ w ∈ u_ws RX3 TX3 8, w ∈ (Cond.code yX0_look cX0_look 7 (none) :: bigT) := fun w h => List.mem_cons_of_mem _ (uw_X3 w h)
  have key : ∀ n : Nat, (∀ (x2 : Int32) (x3 : Int32) (x4 : Int32) (x5 : Int32) (x6 : Int32) (v : jx_V), f_X0_look_L h1 n  x2 x3 x4 x5 x6 v = some v' → jx_J p l e rm_X0_look s m args below meth c D vwCl 67 cI cJ ad shX A 0 0 7 (MQ below (va_Qv (fun (_ : Unit) => True) (fun _ t => va_P D vwCl (jx_ws 67 cI cJ ad shX v') t.heap) A) args s 0 0 A) v 32 [(0, .ref (ad 49)), (1, .ref (ad h1)), (2, .int x2), (3, .int x3), (4, .int x4), (5, .int x5), (6, .int x6)] []) := by
    intro n
    induction n with
    | zero =>
      exact (fun _ _ _ _ _ _ h => by cases h)
    | succ n ih =>
      intro x2 x3 x4 x5 x6 v hF
      rw [f_X0_look_L] at hF
      refine jx_iload E dX0_look_32 6 rfl ?_
      refine jx_iconst (x := 4) E dX0_look_34 (by decide) ?_
      refine jx_icmp_gt (tgt := 130) E dX0_look_35 (by decide) (fun hc4 => ?_) (fun hc4 => ?_)
      · rw [if_pos hc4] at hF
        obtain rfl := Option.some.inj hF
        exact jx_vret E dX0_look_130 rfl
      · rw [if_neg hc4] at hF
        refine jx_iload E dX0_look_38 5 rfl ?_
        refine jx_iload E dX0_look_40 4 rfl ?_
        obtain ⟨⟨r5, v5⟩, hc5, hF⟩ := jx_bind hF
        try dsimp only at hF
        refine jx_callSi (As := [.int x5, .int x4]) (st := []) E dX0_look_42 2 rfl (k_X0_nextLot hI x5 x4 v r5 v5 hc5) (gb_S (List.mem_cons_of_mem _ tw_47) (List.mem_cons_of_mem _ tw_48) (List.mem_cons_of_mem _ tw_49) tw_46) rfl rfl rfl dd_X0_nextLot rfl ⟨by decide, by decide⟩ ⟨Nat.le_refl 0, Nat.le_refl 0⟩ (Nat.le_of_ble_eq_true rfl) ?_
        refine jx_istore (lv' := [(5, .int r5), (0, .ref (ad 49)), (1, .ref (ad h1)), (2, .int x2), (3, .int x3), (4, .int x4), (6, .int x6)]) E dX0_look_45 (by decide) rfl ?_
        refine jx_iload E dX0_look_47 0 rfl ?_
        refine jx_if_lt (tgt := 100) E dX0_look_49 (by decide) (fun hc6 => ?_) (fun hc6 => ?_)
        · rw [if_pos hc6] at hF
          refine jx_aload_n E dX0_look_100 1 rfl ?_
          refine jx_getr (C := RX0) (T := TX0) (M := 3) (k := 0) E dX0_look_101 (Nat.le_of_ble_eq_true rfl) s_X49 rfl iX0 (by decide) rfl (List.mem_cons_of_mem _ tw_38) rfl ?_
          refine jx_iload E dX0_look_104 6 rfl ?_
          refine jx_iconst (x := -1) E dX0_look_106 (by decide) ?_
          obtain ⟨hg7, hF⟩ := jx_guard hF
          refine jx_iast (h := 50) (j := (Int32.toNatClampNeg x6)) E dX0_look_107 (Nat.le_of_ble_eq_true rfl) s_X50 hg7 rfl ?_
          refine jx_aload_n E dX0_look_108 1 rfl ?_
          refine jx_getr (C := RX0) (T := TX0) (M := 3) (k := 1) E dX0_look_109 (Nat.le_of_ble_eq_true rfl) s_X49 rfl iX0 (by decide) rfl (List.mem_cons_of_mem _ tw_39) rfl ?_
          refine jx_iload E dX0_look_112 6 rfl ?_
          refine jx_iconst (x := 0) E dX0_look_114 (by decide) ?_
          obtain ⟨hg8, hF⟩ := jx_guard hF
          refine jx_iast (h := 51) (j := (Int32.toNatClampNeg x6)) E dX0_look_115 (Nat.le_of_ble_eq_true rfl) s_X51 hg8 rfl ?_
          refine jx_aload_n E dX0_look_116 1 rfl ?_
          refine jx_getr (C := RX0) (T := TX0) (M := 3) (k := 2) E dX0_look_117 (Nat.le_of_ble_eq_true rfl) s_X49 rfl iX0 (by decide) rfl (List.mem_cons_of_mem _ tw_50) rfl ?_
          refine jx_iload E dX0_look_120 6 rfl ?_
          refine jx_iconst (x := 0) E dX0_look_122 (by decide) ?_
          obtain ⟨hg9, hF⟩ := jx_guard hF
          refine jx_iast (h := 52) (j := (Int32.toNatClampNeg x6)) E dX0_look_123 (Nat.le_of_ble_eq_true rfl) s_X52 hg9 rfl ?_
          refine jx_iinc (y := (x6 + 1)) (lv' := [(6, .int (x6 + 1)), (5, .int r5), (0, .ref (ad 49)), (1, .ref (ad h1)), (2, .int x2), (3, .int x3), (4, .int x4)]) E dX0_look_124 6 rfl rfl (by decide) rfl ?_
          refine jx_goto (tgt := 32) E dX0_look_127 (by decide) ?_
          refine jx_sub [2, 3, 4, 5, 6, 1, 0] rfl ?_
          exact ih x2 x3 x4 r5 (x6 + 1) (jx_up (jx_up (jx_up v5 50 (Int32.toNatClampNeg x6) (-1)) 51 (Int32.toNatClampNeg x6) 0) 52 (Int32.toNatClampNeg x6) 0) hF
        · rw [if_neg hc6] at hF
          refine jx_aload_n E dX0_look_52 2 rfl ?_
          refine jx_iload E dX0_look_53 0 rfl ?_
          obtain ⟨⟨r10, v10⟩, hc10, hF⟩ := jx_bind hF
          try dsimp only at hF
          refine jx_callNi (As := [.int r5]) (st := []) (h := h1) E dX0_look_55 1 rfl (k_X3_isTaken hI h1 hT1 r5 v5 r10 v10 hc10) (gb_N tw_51) rfl rfl rfl (ex_m13 (jx_ex E)) (List.mem_cons_of_mem _ tw_33) (List.mem_cons_of_mem _ tw_52) (List.mem_cons_of_mem _ tw_53) dd_X3_isTaken.2 rfl (n_T0 hT1) (s_T0 hT1) rfl ⟨by decide, by decide⟩ ⟨Nat.le_refl 0, Nat.le_refl 0⟩ (Nat.le_of_ble_eq_true rfl) ?_
          refine jx_if_eq (tgt := 100) E dX0_look_58 (by decide) (fun hc11 => ?_) (fun hc11 => ?_)
          · rw [if_pos hc11] at hF
            refine jx_aload_n E dX0_look_100 1 rfl ?_
            refine jx_getr (C := RX0) (T := TX0) (M := 3) (k := 0) E dX0_look_101 (Nat.le_of_ble_eq_true rfl) s_X49 rfl iX0 (by decide) rfl (List.mem_cons_of_mem _ tw_38) rfl ?_
            refine jx_iload E dX0_look_104 6 rfl ?_
            refine jx_iconst (x := -1) E dX0_look_106 (by decide) ?_
            obtain ⟨hg12, hF⟩ := jx_guard hF
            refine jx_iast (h := 50) (j := (Int32.toNatClampNeg x6)) E dX0_look_107 (Nat.le_of_ble_eq_true rfl) s_X50 hg12 rfl ?_
            refine jx_aload_n E dX0_look_108 1 rfl ?_
            refine jx_getr (C := RX0) (T := TX0) (M := 3) (k := 1) E dX0_look_109 (Nat.le_of_ble_eq_true rfl) s_X49 rfl iX0 (by decide) rfl (List.mem_cons_of_mem _ tw_39) rfl ?_
            refine jx_iload E dX0_look_112 6 rfl ?_
            refine jx_iconst (x := 0) E dX0_look_114 (by decide) ?_
            obtain ⟨hg13, hF⟩ := jx_guard hF
            refine jx_iast (h := 51) (j := (Int32.toNatClampNeg x6)) E dX0_look_115 (Nat.le_of_ble_eq_true rfl) s_X51 hg13 rfl ?_
            refine jx_aload_n E dX0_look_116 1 rfl ?_
            refine jx_getr (C := RX0) (T := TX0) (M := 3) (k := 2) E dX0_look_117 (Nat.le_of_ble_eq_true rfl) s_X49 rfl iX0 (by decide) rfl (List.mem_cons_of_mem _ tw_50) rfl ?_
            refine jx_iload E dX0_look_120 6 rfl ?_
            refine jx_iconst (x := 0) E dX0_look_122 (by decide) ?_
            obtain ⟨hg14, hF⟩ := jx_guard hF
            refine jx_iast (h := 52) (j := (Int32.toNatClampNeg x6)) E dX0_look_123 (Nat.le_of_ble_eq_true rfl) s_X52 hg14 rfl ?_
            refine jx_iinc (y := (x6 + 1)) (lv' := [(6, .int (x6 + 1)), (5, .int r5), (0, .ref (ad 49)), (1, .ref (ad h1)), (2, .int x2), (3, .int x3), (4, .int x4)]) E dX0_look_124 6 rfl rfl (by decide) rfl ?_
            refine jx_goto (tgt := 32) E dX0_look_127 (by decide) ?_
            refine jx_sub [2, 3, 4, 5, 6, 1, 0] rfl ?_
            exact ih x2 x3 x4 r5 (x6 + 1) (jx_up (jx_up (jx_up v10 50 (Int32.toNatClampNeg x6) (-1)) 51 (Int32.toNatClampNeg x6) 0) 52 (Int32.toNatClampNeg x6) 0) hF
          · rw [if_neg hc11] at hF
            refine jx_aload_n E dX0_look_61 1 rfl ?_
            refine jx_getr (C := RX0) (T := TX0) (M := 3) (k := 0) E dX0_look_62 (Nat.le_of_ble_eq_true rfl) s_X49 rfl iX0 (by decide) rfl (List.mem_cons_of_mem _ tw_38) rfl ?_
            refine jx_iload E dX0_look_65 6 rfl ?_
            refine jx_iload E dX0_look_67 0 rfl ?_
            obtain ⟨hg15, hF⟩ := jx_guard hF
            refine jx_iast (h := 50) (j := (Int32.toNatClampNeg x6)) E dX0_look_69 (Nat.le_of_ble_eq_true rfl) s_X50 hg15 rfl ?_
            refine jx_aload_n E dX0_look_70 1 rfl ?_
            refine jx_getr (C := RX0) (T := TX0) (M := 3) (k := 1) E dX0_look_71 (Nat.le_of_ble_eq_true rfl) s_X49 rfl iX0 (by decide) rfl (List.mem_cons_of_mem _ tw_39) rfl ?_
            refine jx_iload E dX0_look_74 6 rfl ?_
            refine jx_aload_n E dX0_look_76 2 rfl ?_
            refine jx_iload E dX0_look_77 0 rfl ?_
            obtain ⟨⟨r16, v16⟩, hc16, hF⟩ := jx_bind hF
            try dsimp only at hF
            refine jx_callNi (As := [.int r5]) (st := [.int x6, .ref (ad 51)]) (h := h1) E dX0_look_79 1 rfl (k_X3_standing hI h1 hT1 r5 (jx_up v10 50 (Int32.toNatClampNeg x6) r5) r16 v16 hc16) (gb_N tw_54) rfl rfl rfl (ex_m14 (jx_ex E)) (List.mem_cons_of_mem _ tw_33) (List.mem_cons_of_mem _ tw_55) (List.mem_cons_of_mem _ tw_56) dd_X3_standing.2 rfl (n_T0 hT1) (s_T0 hT1) rfl ⟨by decide, by decide⟩ ⟨Nat.le_refl 0, Nat.le_refl 0⟩ (Nat.le_of_ble_eq_true rfl) ?_
            obtain ⟨hg17, hF⟩ := jx_guard hF
            refine jx_iast (h := 51) (j := (Int32.toNatClampNeg x6)) E dX0_look_82 (Nat.le_of_ble_eq_true rfl) s_X51 hg17 rfl ?_
            refine jx_aload_n E dX0_look_83 1 rfl ?_
            refine jx_getr (C := RX0) (T := TX0) (M := 3) (k := 2) E dX0_look_84 (Nat.le_of_ble_eq_true rfl) s_X49 rfl iX0 (by decide) rfl (List.mem_cons_of_mem _ tw_50) rfl ?_
            refine jx_iload E dX0_look_87 6 rfl ?_
            refine jx_aload_n E dX0_look_89 1 rfl ?_
            refine jx_iload E dX0_look_90 6 rfl ?_
            refine jx_iload_n E dX0_look_92 4 rfl ?_
            obtain ⟨⟨r18, v18⟩, hc18, hF⟩ := jx_bind hF
            try dsimp only at hF
            refine jx_callVi (As := [.int x6, .int x3]) (st := [.int x6, .ref (ad 52)]) (h := 49) E dX0_look_93 2 rfl (k_X0_lowestSeen hI x6 x3 (jx_up v16 51 (Int32.toNatClampNeg x6) r16) r18 v18 hc18) (gb_V (List.mem_cons_of_mem _ tw_58) (List.mem_cons_of_mem _ tw_59) (List.mem_cons_of_mem _ tw_60) (List.mem_cons_of_mem _ tw_49) tw_57) rfl rfl rfl dd_X0_lowestSeen rfl (Nat.le_of_ble_eq_true rfl) s_X49 rfl ⟨by decide, by decide⟩ ⟨Nat.le_refl 0, Nat.le_refl 0⟩ (Nat.le_of_ble_eq_true rfl) ?_
            obtain ⟨hg19, hF⟩ := jx_guard hF
            refine jx_iast (h := 52) (j := (Int32.toNatClampNeg x6)) E dX0_look_96 (Nat.le_of_ble_eq_true rfl) s_X52 hg19 rfl ?_
            refine jx_goto (tgt := 124) E dX0_look_97 (by decide) ?_
            refine jx_iinc (y := (x6 + 1)) (lv' := [(6, .int (x6 + 1)), (5, .int r5), (0, .ref (ad 49)), (1, .ref (ad h1)), (2, .int x2), (3, .int x3), (4, .int x4)]) E dX0_look_124 6 rfl rfl (by decide) rfl ?_
            refine jx_goto (tgt := 32) E dX0_look_127 (by decide) ?_
            refine jx_sub [2, 3, 4, 5, 6, 1, 0] rfl ?_
            exact ih x2 x3 x4 r5 (x6 + 1) (jx_up v18 52 (Int32.toNatClampNeg x6) r18) hF
  refine jx_aload_n E dX0_look_0 1 rfl ?_
  refine jx_getrN (C := RX3) (T := TX3) (M := 8) (k := 1) E dX0_look_1 (n_T0 hT1) (s_T0 hT1) rfl iX3 (by decide) rfl (ex_f2 (jx_ex E)) rfl ?_
  refine jx_iconst (x := 1) E dX0_look_4 (by decide) ?_
  refine jx_aald (h' := (h1 + 8)) E dX0_look_5 (n_T2 hT1) (s_T2 hT1) (show ¬ ((1 : Int32) < 0 ∨ 6 ≤ Int32.toNatClampNeg 1) by decide) rfl ?_
  refine jx_iload_n E dX0_look_6 2 rfl ?_
  obtain ⟨hg1, hF⟩ := jx_guard hF
  refine jx_iald (h := (h1 + 8)) (j := (Int32.toNatClampNeg x2)) E dX0_look_7 (n_T8 hT1) (s_T8 hT1) hg1 rfl ?_
  refine jx_istore_n (lv' := [(3, .int (v (h1 + 8) (Int32.toNatClampNeg x2))), (0, .ref (ad 49)), (1, .ref (ad h1)), (2, .int x2)]) E dX0_look_8 (by decide) rfl ?_
  refine jx_aload_n E dX0_look_9 2 rfl ?_
  refine jx_getrN (C := RX3) (T := TX3) (M := 8) (k := 1) E dX0_look_10 (n_T0 hT1) (s_T0 hT1) rfl iX3 (by decide) rfl (ex_f2 (jx_ex E)) rfl ?_
  refine jx_iconst (x := 2) E dX0_look_13 (by decide) ?_
  refine jx_aald (h' := (h1 + 9)) E dX0_look_14 (n_T2 hT1) (s_T2 hT1) (show ¬ ((2 : Int32) < 0 ∨ 6 ≤ Int32.toNatClampNeg 2) by decide) rfl ?_
  refine jx_iload_n E dX0_look_15 3 rfl ?_
  obtain ⟨hg2, hF⟩ := jx_guard hF
  refine jx_iald (h := (h1 + 9)) (j := (Int32.toNatClampNeg x2)) E dX0_look_16 (n_T9 hT1) (s_T9 hT1) hg2 rfl ?_
  refine jx_istore (lv' := [(4, .int (v (h1 + 9) (Int32.toNatClampNeg x2))), (3, .int (v (h1 + 8) (Int32.toNatClampNeg x2))), (0, .ref (ad 49)), (1, .ref (ad h1)), (2, .int x2)]) E dX0_look_17 (by decide) rfl ?_
  refine jx_aload_n E dX0_look_19 3 rfl ?_
  refine jx_getrN (C := RX3) (T := TX3) (M := 8) (k := 1) E dX0_look_20 (n_T0 hT1) (s_T0 hT1) rfl iX3 (by decide) rfl (ex_f2 (jx_ex E)) rfl ?_
  refine jx_iconst (x := 0) E dX0_look_23 (by decide) ?_
  refine jx_aald (h' := (h1 + 7)) E dX0_look_24 (n_T2 hT1) (s_T2 hT1) (show ¬ ((0 : Int32) < 0 ∨ 6 ≤ Int32.toNatClampNeg 0) by decide) rfl ?_
  refine jx_iload_n E dX0_look_25 4 rfl ?_
  obtain ⟨hg3, hF⟩ := jx_guard hF
  refine jx_iald (h := (h1 + 7)) (j := (Int32.toNatClampNeg x2)) E dX0_look_26 (n_T7 hT1) (s_T7 hT1) hg3 rfl ?_
  refine jx_istore (lv' := [(5, .int (v (h1 + 7) (Int32.toNatClampNeg x2))), (4, .int (v (h1 + 9) (Int32.toNatClampNeg x2))), (3, .int (v (h1 + 8) (Int32.toNatClampNeg x2))), (0, .ref (ad 49)), (1, .ref (ad h1)), (2, .int x2)]) E dX0_look_27 (by decide) rfl ?_
  refine jx_iconst (x := 1) E dX0_look_29 (by decide) ?_
  refine jx_istore (lv' := [(6, .int 1), (5, .int (v (h1 + 7) (Int32.toNatClampNeg x2))), (4, .int (v (h1 + 9) (Int32.toNatClampNeg x2))), (3, .int (v (h1 + 8) (Int32.toNatClampNeg x2))), (0, .ref (ad 49)), (1, .ref (ad h1)), (2, .int x2)]) E dX0_look_30 (by decide) rfl ?_
  refine jx_sub [4, 5, 6, 3, 2, 1, 0] rfl ?_
  exact (key 100000) x2 (v (h1 + 8) (Int32.toNatClampNeg x2)) (v (h1 + 9) (Int32.toNatClampNeg x2)) (v (h1 + 7) (Int32.toNatClampNeg x2)) 1 v hF
def f_X0_squares (x1 : Int32) (v : jx_V) : Option (Int32 × jx_V) := (if (x1 < 0 ∨ 5 ≤ Int32.toNatClampNeg x1) then none else (if (x1 < 0 ∨ 5 ≤ Int32.toNatClampNeg x1) then none else ((f_J9_max_7cf53 0 ((v 51 (Int32.toNatClampNeg x1)) - (v 52 (Int32.toNatClampNeg x1))) v).bind (fun (r3, v3) => (some (r3, v3))))))
def rm_X0_squares : Room := { frames := 1, cells := 0, slots := 0, locals := 21 }
set_option maxHeartbeats 4000000 in
set_option maxRecDepth 100000 in
theorem k_X0_squares {l : Launch} {D : va_G} {cI cJ : ClassId} {ad : Nat → Nat} {A : Nat → Prop} {adK adV : Nat → Nat} (hI : jx_inj 67 ad A) (x1 : Int32) (v : jx_V) (r : Int32) (v' : jx_V) (hF : f_X0_squares x1 v = some (r, v')) : jx_Ci l D vwCl 67 cI cJ ad shX A (ex_X adK adV A) yX0_squares (Cond.code yX0_squares cX0_squares 2 (some .int) :: bigT) rm_X0_squares [.ref (ad 49), .int x1] v r v' := by
  unfold f_X0_squares at hF
  refine jx_enteri bigT RX0 cX0_squares 2 (some .int) [(0, .ref (ad 49)), (1, .int x1)] hI (ex_X_ok adK adV A) (by decide +kernel) rfl (Nat.le_of_ble_eq_true rfl) rfl rfl ?_
  intro p e s m args below meth c E
  have iX0 : ∀ w ∈ u_ws RX0 TX0 3, w ∈ (Cond.code yX0_squares cX0_squares 2 (some .int) :: bigT) := fun w h => List.mem_cons_of_mem _ (uw_X0 w h)
  refine jx_iconst (x := 0) E dX0_squares_0 (by decide) ?_
  refine jx_aload_n E dX0_squares_1 0 rfl ?_
  refine jx_getr (C := RX0) (T := TX0) (M := 3) (k := 1) E dX0_squares_2 (Nat.le_of_ble_eq_true rfl) s_X49 rfl iX0 (by decide) rfl (List.mem_cons_of_mem _ tw_39) rfl ?_
  refine jx_iload_n E dX0_squares_5 1 rfl ?_
  obtain ⟨hg1, hF⟩ := jx_guard hF
  refine jx_iald (h := 51) (j := (Int32.toNatClampNeg x1)) E dX0_squares_6 (Nat.le_of_ble_eq_true rfl) s_X51 hg1 rfl ?_
  refine jx_aload_n E dX0_squares_7 0 rfl ?_
  refine jx_getr (C := RX0) (T := TX0) (M := 3) (k := 2) E dX0_squares_8 (Nat.le_of_ble_eq_true rfl) s_X49 rfl iX0 (by decide) rfl (List.mem_cons_of_mem _ tw_50) rfl ?_
  refine jx_iload_n E dX0_squares_11 1 rfl ?_
  obtain ⟨hg2, hF⟩ := jx_guard hF
  refine jx_iald (h := 52) (j := (Int32.toNatClampNeg x1)) E dX0_squares_12 (Nat.le_of_ble_eq_true rfl) s_X52 hg2 rfl ?_
  refine jx_isub E dX0_squares_13 ?_
  obtain ⟨⟨r3, v3⟩, hc3, hF⟩ := jx_bind hF
  try dsimp only at hF
  refine jx_callTi (As := [.int 0, .int ((v 51 (Int32.toNatClampNeg x1)) - (v 52 (Int32.toNatClampNeg x1)))]) (st := []) E dX0_squares_14 2 rfl (k_J9_max_7cf53 hI 0 ((v 51 (Int32.toNatClampNeg x1)) - (v 52 (Int32.toNatClampNeg x1))) v r3 v3 hc3) (gb_N tw_43) rfl rfl rfl (List.mem_cons_of_mem _ tw_44) (List.mem_cons_of_mem _ tw_45) (List.mem_cons_of_mem _ tw_37) dd_J9_max_7cf53.2 rfl ⟨by decide, by decide⟩ ⟨Nat.le_refl 0, Nat.le_refl 0⟩ (Nat.le_of_ble_eq_true rfl) ?_
  obtain ⟨rfl, rfl⟩ := jx_out hF
  exact jx_iret E dX0_squares_17 rfl
def f_X0_squareSet (x1 : Int32) (v : jx_V) : Option (Int32 × jx_V) := ((f_X0_squares x1 v).bind (fun (r1, v1) => (if r1 = 0 then (some (0, v1)) else (if (x1 < 0 ∨ 5 ≤ Int32.toNatClampNeg x1) then none else (if (x1 < 0 ∨ 5 ≤ Int32.toNatClampNeg x1) then none else (some (((1 <<< ((v1 51 (Int32.toNatClampNeg x1)) &&& 31)) - (1 <<< ((v1 52 (Int32.toNatClampNeg x1)) &&& 31))), v1)))))))
def rm_X0_squareSet : Room := { frames := 2, cells := 0, slots := 0, locals := 42 }
set_option maxHeartbeats 4000000 in
set_option maxRecDepth 100000 in
theorem k_X0_squareSet {l : Launch} {D : va_G} {cI cJ : ClassId} {ad : Nat → Nat} {A : Nat → Prop} {adK adV : Nat → Nat} (hI : jx_inj 67 ad A) (x1 : Int32) (v : jx_V) (r : Int32) (v' : jx_V) (hF : f_X0_squareSet x1 v = some (r, v')) : jx_Ci l D vwCl 67 cI cJ ad shX A (ex_X adK adV A) yX0_squareSet (Cond.code yX0_squareSet cX0_squareSet 2 (some .int) :: bigT) rm_X0_squareSet [.ref (ad 49), .int x1] v r v' := by
  unfold f_X0_squareSet at hF
  refine jx_enteri bigT RX0 cX0_squareSet 2 (some .int) [(0, .ref (ad 49)), (1, .int x1)] hI (ex_X_ok adK adV A) (by decide +kernel) rfl (Nat.le_of_ble_eq_true rfl) rfl rfl ?_
  intro p e s m args below meth c E
  have iX0 : ∀ w ∈ u_ws RX0 TX0 3, w ∈ (Cond.code yX0_squareSet cX0_squareSet 2 (some .int) :: bigT) := fun w h => List.mem_cons_of_mem _ (uw_X0 w h)
  refine jx_aload_n E dX0_squareSet_0 0 rfl ?_
  refine jx_iload_n E dX0_squareSet_1 1 rfl ?_
  obtain ⟨⟨r1, v1⟩, hc1, hF⟩ := jx_bind hF
  try dsimp only at hF
  refine jx_callVi (As := [.int x1]) (st := []) (h := 49) E dX0_squareSet_2 1 rfl (k_X0_squares hI x1 v r1 v1 hc1) (gb_V (List.mem_cons_of_mem _ tw_62) (List.mem_cons_of_mem _ tw_63) (List.mem_cons_of_mem _ tw_64) (List.mem_cons_of_mem _ tw_49) tw_61) rfl rfl rfl dd_X0_squares rfl (Nat.le_of_ble_eq_true rfl) s_X49 rfl ⟨by decide, by decide⟩ ⟨Nat.le_refl 0, Nat.le_refl 0⟩ (Nat.le_of_ble_eq_true rfl) ?_
  refine jx_if_ne (tgt := 12) E dX0_squareSet_5 (by decide) (fun hc2 => ?_) (fun hc2 => ?_)
  · rw [if_neg hc2] at hF
    refine jx_iconst (x := 1) E dX0_squareSet_12 (by decide) ?_
    refine jx_aload_n E dX0_squareSet_13 0 rfl ?_
    refine jx_getr (C := RX0) (T := TX0) (M := 3) (k := 1) E dX0_squareSet_14 (Nat.le_of_ble_eq_true rfl) s_X49 rfl iX0 (by decide) rfl (List.mem_cons_of_mem _ tw_39) rfl ?_
    refine jx_iload_n E dX0_squareSet_17 1 rfl ?_
    obtain ⟨hg3, hF⟩ := jx_guard hF
    refine jx_iald (h := 51) (j := (Int32.toNatClampNeg x1)) E dX0_squareSet_18 (Nat.le_of_ble_eq_true rfl) s_X51 hg3 rfl ?_
    refine jx_ishl E dX0_squareSet_19 ?_
    refine jx_iconst (x := 1) E dX0_squareSet_20 (by decide) ?_
    refine jx_aload_n E dX0_squareSet_21 0 rfl ?_
    refine jx_getr (C := RX0) (T := TX0) (M := 3) (k := 2) E dX0_squareSet_22 (Nat.le_of_ble_eq_true rfl) s_X49 rfl iX0 (by decide) rfl (List.mem_cons_of_mem _ tw_50) rfl ?_
    refine jx_iload_n E dX0_squareSet_25 1 rfl ?_
    obtain ⟨hg4, hF⟩ := jx_guard hF
    refine jx_iald (h := 52) (j := (Int32.toNatClampNeg x1)) E dX0_squareSet_26 (Nat.le_of_ble_eq_true rfl) s_X52 hg4 rfl ?_
    refine jx_ishl E dX0_squareSet_27 ?_
    refine jx_isub E dX0_squareSet_28 ?_
    obtain ⟨rfl, rfl⟩ := jx_out hF
    exact jx_iret E dX0_squareSet_29 rfl
  · rw [if_pos hc2] at hF
    refine jx_iconst (x := 0) E dX0_squareSet_8 (by decide) ?_
    refine jx_goto (tgt := 29) E dX0_squareSet_9 (by decide) ?_
    obtain ⟨rfl, rfl⟩ := jx_out hF
    exact jx_iret E dX0_squareSet_29 rfl
def f_X0_squaresInView_L (h1 : Nat) : Nat → Int32 → Int32 → Int32 → jx_V → Option (Int32 × jx_V)
  | 0, _, _, _, _ => none
  | n + 1, x2, x3, x4, v => (if 4 < x4 then (some (x3, v)) else ((f_X0_squares x4 v).bind (fun (r3, v3) => (f_X0_squaresInView_L h1 n x2 (x3 + r3) (x4 + 1) v3))))
def f_X0_squaresInView (h1 : Nat) (x2 : Int32) (v : jx_V) : Option (Int32 × jx_V) := ((f_X0_look h1 x2 v).bind (fun v1 => (f_X0_squaresInView_L h1 100000 x2 0 1 v1)))
def rm_X0_squaresInView : Room := { frames := 3, cells := 0, slots := 0, locals := 73 }
set_option maxHeartbeats 4000000 in
set_option maxRecDepth 100000 in
theorem k_X0_squaresInView {l : Launch} {D : va_G} {cI cJ : ClassId} {ad : Nat → Nat} {A : Nat → Prop} {adK adV : Nat → Nat} (hI : jx_inj 67 ad A) (h1 : Nat) (hT1 : jx_T h1) (x2 : Int32) (v : jx_V) (r : Int32) (v' : jx_V) (hF : f_X0_squaresInView h1 x2 v = some (r, v')) : jx_Ci l D vwCl 67 cI cJ ad shX A (ex_X adK adV A) yX0_squaresInView (Cond.code yX0_squaresInView cX0_squaresInView 5 (some .int) :: bigT) rm_X0_squaresInView [.ref (ad 49), .ref (ad h1), .int x2] v r v' := by
  unfold f_X0_squaresInView at hF
  refine jx_enteri bigT RX0 cX0_squaresInView 5 (some .int) [(0, .ref (ad 49)), (1, .ref (ad h1)), (2, .int x2)] hI (ex_X_ok adK adV A) (by decide +kernel) rfl (Nat.le_of_ble_eq_true rfl) rfl rfl ?_
  intro p e s m args below meth c E
  have key : ∀ n : Nat, (∀ (x2 : Int32) (x3 : Int32) (x4 : Int32) (v : jx_V), f_X0_squaresInView_L h1 n  x2 x3 x4 v = some (r, v') → jx_J p l e rm_X0_squaresInView s m args below meth c D vwCl 67 cI cJ ad shX A 0 0 5 (MQ below (va_Qi (fun (r1 : Int32) (_ : Unit) => r1 = r) (fun _ t => va_P D vwCl (jx_ws 67 cI cJ ad shX v') t.heap) A) args s 0 0 A) v 11 [(0, .ref (ad 49)), (1, .ref (ad h1)), (2, .int x2), (3, .int x3), (4, .int x4)] []) := by
    intro n
    induction n with
    | zero =>
      exact (fun _ _ _ _ h => by cases h)
    | succ n ih =>
      intro x2 x3 x4 v hF
      rw [f_X0_squaresInView_L] at hF
      refine jx_iload E dX0_squaresInView_11 4 rfl ?_
      refine jx_iconst (x := 4) E dX0_squaresInView_13 (by decide) ?_
      refine jx_icmp_gt (tgt := 32) E dX0_squaresInView_14 (by decide) (fun hc2 => ?_) (fun hc2 => ?_)
      · rw [if_pos hc2] at hF
        refine jx_iload_n E dX0_squaresInView_32 3 rfl ?_
        obtain ⟨rfl, rfl⟩ := jx_out hF
        exact jx_iret E dX0_squaresInView_33 rfl
      · rw [if_neg hc2] at hF
        refine jx_iload_n E dX0_squaresInView_17 3 rfl ?_
        refine jx_aload_n E dX0_squaresInView_18 0 rfl ?_
        refine jx_iload E dX0_squaresInView_19 4 rfl ?_
        obtain ⟨⟨r3, v3⟩, hc3, hF⟩ := jx_bind hF
        try dsimp only at hF
        refine jx_callVi (As := [.int x4]) (st := [.int x3]) (h := 49) E dX0_squaresInView_21 1 rfl (k_X0_squares hI x4 v r3 v3 hc3) (gb_V (List.mem_cons_of_mem _ tw_62) (List.mem_cons_of_mem _ tw_63) (List.mem_cons_of_mem _ tw_64) (List.mem_cons_of_mem _ tw_49) tw_61) rfl rfl rfl dd_X0_squares rfl (Nat.le_of_ble_eq_true rfl) s_X49 rfl ⟨by decide, by decide⟩ ⟨Nat.le_refl 0, Nat.le_refl 0⟩ (Nat.le_of_ble_eq_true rfl) ?_
        refine jx_iadd E dX0_squaresInView_24 ?_
        refine jx_istore_n (lv' := [(3, .int (x3 + r3)), (0, .ref (ad 49)), (1, .ref (ad h1)), (2, .int x2), (4, .int x4)]) E dX0_squaresInView_25 (by decide) rfl ?_
        refine jx_iinc (y := (x4 + 1)) (lv' := [(4, .int (x4 + 1)), (3, .int (x3 + r3)), (0, .ref (ad 49)), (1, .ref (ad h1)), (2, .int x2)]) E dX0_squaresInView_26 4 rfl rfl (by decide) rfl ?_
        refine jx_goto (tgt := 11) E dX0_squaresInView_29 (by decide) ?_
        refine jx_sub [2, 3, 4, 1, 0] rfl ?_
        exact ih x2 (x3 + r3) (x4 + 1) v3 hF
  refine jx_aload_n E dX0_squaresInView_0 0 rfl ?_
  refine jx_aload_n E dX0_squaresInView_1 1 rfl ?_
  refine jx_iload_n E dX0_squaresInView_2 2 rfl ?_
  obtain ⟨v1, hc1, hF⟩ := jx_bind hF
  try dsimp only at hF
  refine jx_callVv (As := [.ref (ad h1), .int x2]) (st := []) (h := 49) E dX0_squaresInView_3 2 rfl (k_X0_look hI h1 hT1 x2 v v1 hc1) (gb_V (List.mem_cons_of_mem _ tw_66) (List.mem_cons_of_mem _ tw_67) (List.mem_cons_of_mem _ tw_68) (List.mem_cons_of_mem _ tw_49) tw_65) rfl rfl rfl dd_X0_look rfl (Nat.le_of_ble_eq_true rfl) s_X49 rfl ⟨by decide, by decide⟩ ⟨Nat.le_refl 0, Nat.le_refl 0⟩ (Nat.le_of_ble_eq_true rfl) ?_
  refine jx_iconst (x := 0) E dX0_squaresInView_6 (by decide) ?_
  refine jx_istore_n (lv' := [(3, .int 0), (0, .ref (ad 49)), (1, .ref (ad h1)), (2, .int x2)]) E dX0_squaresInView_7 (by decide) rfl ?_
  refine jx_iconst (x := 1) E dX0_squaresInView_8 (by decide) ?_
  refine jx_istore (lv' := [(4, .int 1), (3, .int 0), (0, .ref (ad 49)), (1, .ref (ad h1)), (2, .int x2)]) E dX0_squaresInView_9 (by decide) rfl ?_
  refine jx_sub [2, 3, 4, 1, 0] rfl ?_
  exact (key 100000) x2 0 1 v1 hF
def f_X0_squaresInAllViews_L (h1 : Nat) : Nat → Int32 → Int32 → jx_V → Option (Int32 × jx_V)
  | 0, _, _, _ => none
  | n + 1, x2, x3, v => (if (v h1 5) ≤ x3 then (some (x2, v)) else ((f_X0_squaresInView h1 x3 v).bind (fun (r2, v2) => (f_X0_squaresInAllViews_L h1 n (x2 + r2) (x3 + 1) v2))))
def f_X0_squaresInAllViews (h1 : Nat) (v : jx_V) : Option (Int32 × jx_V) := (f_X0_squaresInAllViews_L h1 100000 0 0 v)
def rm_X0_squaresInAllViews : Room := { frames := 4, cells := 0, slots := 0, locals := 97 }
set_option maxHeartbeats 4000000 in
set_option maxRecDepth 100000 in
theorem k_X0_squaresInAllViews {l : Launch} {D : va_G} {cI cJ : ClassId} {ad : Nat → Nat} {A : Nat → Prop} {adK adV : Nat → Nat} (hI : jx_inj 67 ad A) (h1 : Nat) (hT1 : jx_T h1) (v : jx_V) (r : Int32) (v' : jx_V) (hF : f_X0_squaresInAllViews h1 v = some (r, v')) : jx_Ci l D vwCl 67 cI cJ ad shX A (ex_X adK adV A) yX0_squaresInAllViews (Cond.code yX0_squaresInAllViews cX0_squaresInAllViews 4 (some .int) :: bigT) rm_X0_squaresInAllViews [.ref (ad 49), .ref (ad h1)] v r v' := by
  unfold f_X0_squaresInAllViews at hF
  refine jx_enteri bigT RX0 cX0_squaresInAllViews 4 (some .int) [(0, .ref (ad 49)), (1, .ref (ad h1))] hI (ex_X_ok adK adV A) (by decide +kernel) rfl (Nat.le_of_ble_eq_true rfl) rfl rfl ?_
  intro p e s m args below meth c E
  have iX3 : ∀ w ∈ u_ws RX3 TX3 8, w ∈ (Cond.code yX0_squaresInAllViews cX0_squaresInAllViews 4 (some .int) :: bigT) := fun w h => List.mem_cons_of_mem _ (uw_X3 w h)
  have key : ∀ n : Nat, (∀ (x2 : Int32) (x3 : Int32) (v : jx_V), f_X0_squaresInAllViews_L h1 n  x2 x3 v = some (r, v') → jx_J p l e rm_X0_squaresInAllViews s m args below meth c D vwCl 67 cI cJ ad shX A 0 0 4 (MQ below (va_Qi (fun (r1 : Int32) (_ : Unit) => r1 = r) (fun _ t => va_P D vwCl (jx_ws 67 cI cJ ad shX v') t.heap) A) args s 0 0 A) v 4 [(0, .ref (ad 49)), (1, .ref (ad h1)), (2, .int x2), (3, .int x3)] []) := by
    intro n
    induction n with
    | zero =>
      exact (fun _ _ _ h => by cases h)
    | succ n ih =>
      intro x2 x3 v hF
      rw [f_X0_squaresInAllViews_L] at hF
      refine jx_iload_n E dX0_squaresInAllViews_4 3 rfl ?_
      refine jx_aload_n E dX0_squaresInAllViews_5 1 rfl ?_
      refine jx_getiN (C := RX3) (T := TX3) (M := 8) (k := 5) E dX0_squaresInAllViews_6 (n_T0 hT1) (s_T0 hT1) rfl iX3 (by decide) rfl (ex_f11 (jx_ex E)) rfl ?_
      refine jx_icmp_ge (tgt := 27) E dX0_squaresInAllViews_9 (by decide) (fun hc1 => ?_) (fun hc1 => ?_)
      · rw [if_pos hc1] at hF
        refine jx_iload_n E dX0_squaresInAllViews_27 2 rfl ?_
        obtain ⟨rfl, rfl⟩ := jx_out hF
        exact jx_iret E dX0_squaresInAllViews_28 rfl
      · rw [if_neg hc1] at hF
        refine jx_iload_n E dX0_squaresInAllViews_12 2 rfl ?_
        refine jx_aload_n E dX0_squaresInAllViews_13 0 rfl ?_
        refine jx_aload_n E dX0_squaresInAllViews_14 1 rfl ?_
        refine jx_iload_n E dX0_squaresInAllViews_15 3 rfl ?_
        obtain ⟨⟨r2, v2⟩, hc2, hF⟩ := jx_bind hF
        try dsimp only at hF
        refine jx_callVi (As := [.ref (ad h1), .int x3]) (st := [.int x2]) (h := 49) E dX0_squaresInAllViews_16 2 rfl (k_X0_squaresInView hI h1 hT1 x3 v r2 v2 hc2) (gb_V (List.mem_cons_of_mem _ tw_70) (List.mem_cons_of_mem _ tw_71) (List.mem_cons_of_mem _ tw_72) (List.mem_cons_of_mem _ tw_49) tw_69) rfl rfl rfl dd_X0_squaresInView rfl (Nat.le_of_ble_eq_true rfl) s_X49 rfl ⟨by decide, by decide⟩ ⟨Nat.le_refl 0, Nat.le_refl 0⟩ (Nat.le_of_ble_eq_true rfl) ?_
        refine jx_iadd E dX0_squaresInAllViews_19 ?_
        refine jx_istore_n (lv' := [(2, .int (x2 + r2)), (0, .ref (ad 49)), (1, .ref (ad h1)), (3, .int x3)]) E dX0_squaresInAllViews_20 (by decide) rfl ?_
        refine jx_iinc (y := (x3 + 1)) (lv' := [(3, .int (x3 + 1)), (2, .int (x2 + r2)), (0, .ref (ad 49)), (1, .ref (ad h1))]) E dX0_squaresInAllViews_21 3 rfl rfl (by decide) rfl ?_
        refine jx_goto (tgt := 4) E dX0_squaresInAllViews_24 (by decide) ?_
        refine jx_sub [2, 3, 1, 0] rfl ?_
        exact ih (x2 + r2) (x3 + 1) v2 hF
  refine jx_iconst (x := 0) E dX0_squaresInAllViews_0 (by decide) ?_
  refine jx_istore_n (lv' := [(2, .int 0), (0, .ref (ad 49)), (1, .ref (ad h1))]) E dX0_squaresInAllViews_1 (by decide) rfl ?_
  refine jx_iconst (x := 0) E dX0_squaresInAllViews_2 (by decide) ?_
  refine jx_istore_n (lv' := [(3, .int 0), (2, .int 0), (0, .ref (ad 49)), (1, .ref (ad h1))]) E dX0_squaresInAllViews_3 (by decide) rfl ?_
  refine jx_sub [2, 3, 1, 0] rfl ?_
  exact (key 100000) 0 0 v hF
def f_X0_squaresOfOwner_L (h1 : Nat) : Nat → Int32 → Int32 → Int32 → Int32 → jx_V → Option (Int32 × jx_V)
  | 0, _, _, _, _, _ => none
  | n + 1, x2, x3, x4, x5, v => (if 4 < x5 then (some (x4, v)) else (if (x5 < 0 ∨ 5 ≤ Int32.toNatClampNeg x5) then none else (if (v 50 (Int32.toNatClampNeg x5)) < 0 then (f_X0_squaresOfOwner_L h1 n x2 x3 x4 (x5 + 1) v) else (if (x5 < 0 ∨ 5 ≤ Int32.toNatClampNeg x5) then none else (if ((v 50 (Int32.toNatClampNeg x5)) < 0 ∨ 25 ≤ Int32.toNatClampNeg (v 50 (Int32.toNatClampNeg x5))) then none else (if (v (h1 + 4) (Int32.toNatClampNeg (v 50 (Int32.toNatClampNeg x5)))) = x3 then ((f_X0_squares x5 v).bind (fun (r8, v8) => (f_X0_squaresOfOwner_L h1 n x2 x3 (x4 + r8) (x5 + 1) v8))) else (f_X0_squaresOfOwner_L h1 n x2 x3 x4 (x5 + 1) v)))))))
def f_X0_squaresOfOwner (h1 : Nat) (x2 : Int32) (x3 : Int32) (v : jx_V) : Option (Int32 × jx_V) := ((f_X0_look h1 x2 v).bind (fun v1 => (f_X0_squaresOfOwner_L h1 100000 x2 x3 0 1 v1)))
def rm_X0_squaresOfOwner : Room := { frames := 3, cells := 0, slots := 0, locals := 73 }
set_option maxHeartbeats 4000000 in
set_option maxRecDepth 100000 in
theorem k_X0_squaresOfOwner {l : Launch} {D : va_G} {cI cJ : ClassId} {ad : Nat → Nat} {A : Nat → Prop} {adK adV : Nat → Nat} (hI : jx_inj 67 ad A) (h1 : Nat) (hT1 : jx_T h1) (x2 : Int32) (x3 : Int32) (v : jx_V) (r : Int32) (v' : jx_V) (hF : f_X0_squaresOfOwner h1 x2 x3 v = some (r, v')) : jx_Ci l D vwCl 67 cI cJ ad shX A (ex_X adK adV A) yX0_squaresOfOwner (Cond.code yX0_squaresOfOwner cX0_squaresOfOwner 6 (some .int) :: bigT) rm_X0_squaresOfOwner [.ref (ad 49), .ref (ad h1), .int x2, .int x3] v r v' := by
  unfold f_X0_squaresOfOwner at hF
  refine jx_enteri bigT RX0 cX0_squaresOfOwner 6 (some .int) [(0, .ref (ad 49)), (1, .ref (ad h1)), (2, .int x2), (3, .int x3)] hI (ex_X_ok adK adV A) (by decide +kernel) rfl (Nat.le_of_ble_eq_true rfl) rfl rfl ?_
  intro p e s m args below meth c E
  have iX0 : ∀ w ∈ u_ws RX0 TX0 3, w ∈ (Cond.code yX0_squaresOfOwner cX0_squaresOfOwner 6 (some .int) :: bigT) := fun w h => List.mem_cons_of_mem _ (uw_X0 w h)
  have iX3 : ∀ w ∈ u_ws RX3 TX3 8, w ∈ (Cond.code yX0_squaresOfOwner cX0_squaresOfOwner 6 (some .int) :: bigT) := fun w h => List.mem_cons_of_mem _ (uw_X3 w h)
  have key : ∀ n : Nat, (∀ (x2 : Int32) (x3 : Int32) (x4 : Int32) (x5 : Int32) (v : jx_V), f_X0_squaresOfOwner_L h1 n  x2 x3 x4 x5 v = some (r, v') → jx_J p l e rm_X0_squaresOfOwner s m args below meth c D vwCl 67 cI cJ ad shX A 0 0 6 (MQ below (va_Qi (fun (r1 : Int32) (_ : Unit) => r1 = r) (fun _ t => va_P D vwCl (jx_ws 67 cI cJ ad shX v') t.heap) A) args s 0 0 A) v 12 [(0, .ref (ad 49)), (1, .ref (ad h1)), (2, .int x2), (3, .int x3), (4, .int x4), (5, .int x5)] []) := by
    intro n
    induction n with
    | zero =>
      exact (fun _ _ _ _ _ h => by cases h)
    | succ n ih =>
      intro x2 x3 x4 x5 v hF
      rw [f_X0_squaresOfOwner_L] at hF
      refine jx_iload E dX0_squaresOfOwner_12 5 rfl ?_
      refine jx_iconst (x := 4) E dX0_squaresOfOwner_14 (by decide) ?_
      refine jx_icmp_gt (tgt := 63) E dX0_squaresOfOwner_15 (by decide) (fun hc2 => ?_) (fun hc2 => ?_)
      · rw [if_pos hc2] at hF
        refine jx_iload E dX0_squaresOfOwner_63 4 rfl ?_
        obtain ⟨rfl, rfl⟩ := jx_out hF
        exact jx_iret E dX0_squaresOfOwner_65 rfl
      · rw [if_neg hc2] at hF
        refine jx_aload_n E dX0_squaresOfOwner_18 0 rfl ?_
        refine jx_getr (C := RX0) (T := TX0) (M := 3) (k := 0) E dX0_squaresOfOwner_19 (Nat.le_of_ble_eq_true rfl) s_X49 rfl iX0 (by decide) rfl (List.mem_cons_of_mem _ tw_38) rfl ?_
        refine jx_iload E dX0_squaresOfOwner_22 5 rfl ?_
        obtain ⟨hg3, hF⟩ := jx_guard hF
        refine jx_iald (h := 50) (j := (Int32.toNatClampNeg x5)) E dX0_squaresOfOwner_24 (Nat.le_of_ble_eq_true rfl) s_X50 hg3 rfl ?_
        refine jx_if_lt (tgt := 57) E dX0_squaresOfOwner_25 (by decide) (fun hc4 => ?_) (fun hc4 => ?_)
        · rw [if_pos hc4] at hF
          refine jx_iinc (y := (x5 + 1)) (lv' := [(5, .int (x5 + 1)), (0, .ref (ad 49)), (1, .ref (ad h1)), (2, .int x2), (3, .int x3), (4, .int x4)]) E dX0_squaresOfOwner_57 5 rfl rfl (by decide) rfl ?_
          refine jx_goto (tgt := 12) E dX0_squaresOfOwner_60 (by decide) ?_
          refine jx_sub [1, 2, 3, 4, 5, 0] rfl ?_
          exact ih x2 x3 x4 (x5 + 1) v hF
        · rw [if_neg hc4] at hF
          refine jx_aload_n E dX0_squaresOfOwner_28 1 rfl ?_
          refine jx_getrN (C := RX3) (T := TX3) (M := 8) (k := 0) E dX0_squaresOfOwner_29 (n_T0 hT1) (s_T0 hT1) rfl iX3 (by decide) rfl (ex_f1 (jx_ex E)) rfl ?_
          refine jx_iconst (x := 1) E dX0_squaresOfOwner_32 (by decide) ?_
          refine jx_aald (h' := (h1 + 4)) E dX0_squaresOfOwner_33 (n_T1 hT1) (s_T1 hT1) (show ¬ ((1 : Int32) < 0 ∨ 4 ≤ Int32.toNatClampNeg 1) by decide) rfl ?_
          refine jx_aload_n E dX0_squaresOfOwner_34 0 rfl ?_
          refine jx_getr (C := RX0) (T := TX0) (M := 3) (k := 0) E dX0_squaresOfOwner_35 (Nat.le_of_ble_eq_true rfl) s_X49 rfl iX0 (by decide) rfl (List.mem_cons_of_mem _ tw_38) rfl ?_
          refine jx_iload E dX0_squaresOfOwner_38 5 rfl ?_
          obtain ⟨hg5, hF⟩ := jx_guard hF
          refine jx_iald (h := 50) (j := (Int32.toNatClampNeg x5)) E dX0_squaresOfOwner_40 (Nat.le_of_ble_eq_true rfl) s_X50 hg5 rfl ?_
          obtain ⟨hg6, hF⟩ := jx_guard hF
          refine jx_iald (h := (h1 + 4)) (j := (Int32.toNatClampNeg (v 50 (Int32.toNatClampNeg x5)))) E dX0_squaresOfOwner_41 (n_T4 hT1) (s_T4 hT1) hg6 rfl ?_
          refine jx_iload_n E dX0_squaresOfOwner_42 3 rfl ?_
          refine jx_icmp_ne (tgt := 57) E dX0_squaresOfOwner_43 (by decide) (fun hc7 => ?_) (fun hc7 => ?_)
          · rw [if_neg hc7] at hF
            refine jx_iinc (y := (x5 + 1)) (lv' := [(5, .int (x5 + 1)), (0, .ref (ad 49)), (1, .ref (ad h1)), (2, .int x2), (3, .int x3), (4, .int x4)]) E dX0_squaresOfOwner_57 5 rfl rfl (by decide) rfl ?_
            refine jx_goto (tgt := 12) E dX0_squaresOfOwner_60 (by decide) ?_
            refine jx_sub [1, 2, 3, 4, 5, 0] rfl ?_
            exact ih x2 x3 x4 (x5 + 1) v hF
          · rw [if_pos hc7] at hF
            refine jx_iload E dX0_squaresOfOwner_46 4 rfl ?_
            refine jx_aload_n E dX0_squaresOfOwner_48 0 rfl ?_
            refine jx_iload E dX0_squaresOfOwner_49 5 rfl ?_
            obtain ⟨⟨r8, v8⟩, hc8, hF⟩ := jx_bind hF
            try dsimp only at hF
            refine jx_callVi (As := [.int x5]) (st := [.int x4]) (h := 49) E dX0_squaresOfOwner_51 1 rfl (k_X0_squares hI x5 v r8 v8 hc8) (gb_V (List.mem_cons_of_mem _ tw_62) (List.mem_cons_of_mem _ tw_63) (List.mem_cons_of_mem _ tw_64) (List.mem_cons_of_mem _ tw_49) tw_61) rfl rfl rfl dd_X0_squares rfl (Nat.le_of_ble_eq_true rfl) s_X49 rfl ⟨by decide, by decide⟩ ⟨Nat.le_refl 0, Nat.le_refl 0⟩ (Nat.le_of_ble_eq_true rfl) ?_
            refine jx_iadd E dX0_squaresOfOwner_54 ?_
            refine jx_istore (lv' := [(4, .int (x4 + r8)), (0, .ref (ad 49)), (1, .ref (ad h1)), (2, .int x2), (3, .int x3), (5, .int x5)]) E dX0_squaresOfOwner_55 (by decide) rfl ?_
            refine jx_iinc (y := (x5 + 1)) (lv' := [(5, .int (x5 + 1)), (4, .int (x4 + r8)), (0, .ref (ad 49)), (1, .ref (ad h1)), (2, .int x2), (3, .int x3)]) E dX0_squaresOfOwner_57 5 rfl rfl (by decide) rfl ?_
            refine jx_goto (tgt := 12) E dX0_squaresOfOwner_60 (by decide) ?_
            refine jx_sub [2, 3, 4, 5, 1, 0] rfl ?_
            exact ih x2 x3 (x4 + r8) (x5 + 1) v8 hF
  refine jx_aload_n E dX0_squaresOfOwner_0 0 rfl ?_
  refine jx_aload_n E dX0_squaresOfOwner_1 1 rfl ?_
  refine jx_iload_n E dX0_squaresOfOwner_2 2 rfl ?_
  obtain ⟨v1, hc1, hF⟩ := jx_bind hF
  try dsimp only at hF
  refine jx_callVv (As := [.ref (ad h1), .int x2]) (st := []) (h := 49) E dX0_squaresOfOwner_3 2 rfl (k_X0_look hI h1 hT1 x2 v v1 hc1) (gb_V (List.mem_cons_of_mem _ tw_66) (List.mem_cons_of_mem _ tw_67) (List.mem_cons_of_mem _ tw_68) (List.mem_cons_of_mem _ tw_49) tw_65) rfl rfl rfl dd_X0_look rfl (Nat.le_of_ble_eq_true rfl) s_X49 rfl ⟨by decide, by decide⟩ ⟨Nat.le_refl 0, Nat.le_refl 0⟩ (Nat.le_of_ble_eq_true rfl) ?_
  refine jx_iconst (x := 0) E dX0_squaresOfOwner_6 (by decide) ?_
  refine jx_istore (lv' := [(4, .int 0), (0, .ref (ad 49)), (1, .ref (ad h1)), (2, .int x2), (3, .int x3)]) E dX0_squaresOfOwner_7 (by decide) rfl ?_
  refine jx_iconst (x := 1) E dX0_squaresOfOwner_9 (by decide) ?_
  refine jx_istore (lv' := [(5, .int 1), (4, .int 0), (0, .ref (ad 49)), (1, .ref (ad h1)), (2, .int x2), (3, .int x3)]) E dX0_squaresOfOwner_10 (by decide) rfl ?_
  refine jx_sub [2, 3, 4, 5, 1, 0] rfl ?_
  exact (key 100000) x2 x3 0 1 v1 hF
def f_X0_lotSet_L (h1 : Nat) : Nat → Int32 → Int32 → Int32 → jx_V → Option (Int32 × jx_V)
  | 0, _, _, _, _ => none
  | n + 1, x2, x3, x4, v => (if 4 < x4 then (some (x3, v)) else (if (x4 < 0 ∨ 5 ≤ Int32.toNatClampNeg x4) then none else (if (v 50 (Int32.toNatClampNeg x4)) < 0 then (f_X0_lotSet_L h1 n x2 x3 (x4 + 1) v) else ((f_X0_squares x4 v).bind (fun (r5, v5) => (if r5 ≤ 0 then (f_X0_lotSet_L h1 n x2 x3 (x4 + 1) v5) else (if (x4 < 0 ∨ 5 ≤ Int32.toNatClampNeg x4) then none else (f_X0_lotSet_L h1 n x2 (x3 ||| (1 <<< ((v5 50 (Int32.toNatClampNeg x4)) &&& 31))) (x4 + 1) v5))))))))
def f_X0_lotSet (h1 : Nat) (x2 : Int32) (v : jx_V) : Option (Int32 × jx_V) := ((f_X0_look h1 x2 v).bind (fun v1 => (f_X0_lotSet_L h1 100000 x2 0 1 v1)))
def rm_X0_lotSet : Room := { frames := 3, cells := 0, slots := 0, locals := 73 }
set_option maxHeartbeats 4000000 in
set_option maxRecDepth 100000 in
theorem k_X0_lotSet {l : Launch} {D : va_G} {cI cJ : ClassId} {ad : Nat → Nat} {A : Nat → Prop} {adK adV : Nat → Nat} (hI : jx_inj 67 ad A) (h1 : Nat) (hT1 : jx_T h1) (x2 : Int32) (v : jx_V) (r : Int32) (v' : jx_V) (hF : f_X0_lotSet h1 x2 v = some (r, v')) : jx_Ci l D vwCl 67 cI cJ ad shX A (ex_X adK adV A) yX0_lotSet (Cond.code yX0_lotSet cX0_lotSet 5 (some .int) :: bigT) rm_X0_lotSet [.ref (ad 49), .ref (ad h1), .int x2] v r v' := by
  unfold f_X0_lotSet at hF
  refine jx_enteri bigT RX0 cX0_lotSet 5 (some .int) [(0, .ref (ad 49)), (1, .ref (ad h1)), (2, .int x2)] hI (ex_X_ok adK adV A) (by decide +kernel) rfl (Nat.le_of_ble_eq_true rfl) rfl rfl ?_
  intro p e s m args below meth c E
  have iX0 : ∀ w ∈ u_ws RX0 TX0 3, w ∈ (Cond.code yX0_lotSet cX0_lotSet 5 (some .int) :: bigT) := fun w h => List.mem_cons_of_mem _ (uw_X0 w h)
  have key : ∀ n : Nat, (∀ (x2 : Int32) (x3 : Int32) (x4 : Int32) (v : jx_V), f_X0_lotSet_L h1 n  x2 x3 x4 v = some (r, v') → jx_J p l e rm_X0_lotSet s m args below meth c D vwCl 67 cI cJ ad shX A 0 0 5 (MQ below (va_Qi (fun (r1 : Int32) (_ : Unit) => r1 = r) (fun _ t => va_P D vwCl (jx_ws 67 cI cJ ad shX v') t.heap) A) args s 0 0 A) v 11 [(0, .ref (ad 49)), (1, .ref (ad h1)), (2, .int x2), (3, .int x3), (4, .int x4)] []) := by
    intro n
    induction n with
    | zero =>
      exact (fun _ _ _ _ h => by cases h)
    | succ n ih =>
      intro x2 x3 x4 v hF
      rw [f_X0_lotSet_L] at hF
      refine jx_iload E dX0_lotSet_11 4 rfl ?_
      refine jx_iconst (x := 4) E dX0_lotSet_13 (by decide) ?_
      refine jx_icmp_gt (tgt := 54) E dX0_lotSet_14 (by decide) (fun hc2 => ?_) (fun hc2 => ?_)
      · rw [if_pos hc2] at hF
        refine jx_iload_n E dX0_lotSet_54 3 rfl ?_
        obtain ⟨rfl, rfl⟩ := jx_out hF
        exact jx_iret E dX0_lotSet_55 rfl
      · rw [if_neg hc2] at hF
        refine jx_aload_n E dX0_lotSet_17 0 rfl ?_
        refine jx_getr (C := RX0) (T := TX0) (M := 3) (k := 0) E dX0_lotSet_18 (Nat.le_of_ble_eq_true rfl) s_X49 rfl iX0 (by decide) rfl (List.mem_cons_of_mem _ tw_38) rfl ?_
        refine jx_iload E dX0_lotSet_21 4 rfl ?_
        obtain ⟨hg3, hF⟩ := jx_guard hF
        refine jx_iald (h := 50) (j := (Int32.toNatClampNeg x4)) E dX0_lotSet_23 (Nat.le_of_ble_eq_true rfl) s_X50 hg3 rfl ?_
        refine jx_if_lt (tgt := 48) E dX0_lotSet_24 (by decide) (fun hc4 => ?_) (fun hc4 => ?_)
        · rw [if_pos hc4] at hF
          refine jx_iinc (y := (x4 + 1)) (lv' := [(4, .int (x4 + 1)), (0, .ref (ad 49)), (1, .ref (ad h1)), (2, .int x2), (3, .int x3)]) E dX0_lotSet_48 4 rfl rfl (by decide) rfl ?_
          refine jx_goto (tgt := 11) E dX0_lotSet_51 (by decide) ?_
          refine jx_sub [1, 2, 3, 4, 0] rfl ?_
          exact ih x2 x3 (x4 + 1) v hF
        · rw [if_neg hc4] at hF
          refine jx_aload_n E dX0_lotSet_27 0 rfl ?_
          refine jx_iload E dX0_lotSet_28 4 rfl ?_
          obtain ⟨⟨r5, v5⟩, hc5, hF⟩ := jx_bind hF
          try dsimp only at hF
          refine jx_callVi (As := [.int x4]) (st := []) (h := 49) E dX0_lotSet_30 1 rfl (k_X0_squares hI x4 v r5 v5 hc5) (gb_V (List.mem_cons_of_mem _ tw_62) (List.mem_cons_of_mem _ tw_63) (List.mem_cons_of_mem _ tw_64) (List.mem_cons_of_mem _ tw_49) tw_61) rfl rfl rfl dd_X0_squares rfl (Nat.le_of_ble_eq_true rfl) s_X49 rfl ⟨by decide, by decide⟩ ⟨Nat.le_refl 0, Nat.le_refl 0⟩ (Nat.le_of_ble_eq_true rfl) ?_
          refine jx_if_le (tgt := 48) E dX0_lotSet_33 (by decide) (fun hc6 => ?_) (fun hc6 => ?_)
          · rw [if_pos hc6] at hF
            refine jx_iinc (y := (x4 + 1)) (lv' := [(4, .int (x4 + 1)), (0, .ref (ad 49)), (1, .ref (ad h1)), (2, .int x2), (3, .int x3)]) E dX0_lotSet_48 4 rfl rfl (by decide) rfl ?_
            refine jx_goto (tgt := 11) E dX0_lotSet_51 (by decide) ?_
            refine jx_sub [1, 2, 3, 4, 0] rfl ?_
            exact ih x2 x3 (x4 + 1) v5 hF
          · rw [if_neg hc6] at hF
            refine jx_iload_n E dX0_lotSet_36 3 rfl ?_
            refine jx_iconst (x := 1) E dX0_lotSet_37 (by decide) ?_
            refine jx_aload_n E dX0_lotSet_38 0 rfl ?_
            refine jx_getr (C := RX0) (T := TX0) (M := 3) (k := 0) E dX0_lotSet_39 (Nat.le_of_ble_eq_true rfl) s_X49 rfl iX0 (by decide) rfl (List.mem_cons_of_mem _ tw_38) rfl ?_
            refine jx_iload E dX0_lotSet_42 4 rfl ?_
            obtain ⟨hg7, hF⟩ := jx_guard hF
            refine jx_iald (h := 50) (j := (Int32.toNatClampNeg x4)) E dX0_lotSet_44 (Nat.le_of_ble_eq_true rfl) s_X50 hg7 rfl ?_
            refine jx_ishl E dX0_lotSet_45 ?_
            refine jx_ior E dX0_lotSet_46 ?_
            refine jx_istore_n (lv' := [(3, .int (x3 ||| (1 <<< ((v5 50 (Int32.toNatClampNeg x4)) &&& 31)))), (0, .ref (ad 49)), (1, .ref (ad h1)), (2, .int x2), (4, .int x4)]) E dX0_lotSet_47 (by decide) rfl ?_
            refine jx_iinc (y := (x4 + 1)) (lv' := [(4, .int (x4 + 1)), (3, .int (x3 ||| (1 <<< ((v5 50 (Int32.toNatClampNeg x4)) &&& 31)))), (0, .ref (ad 49)), (1, .ref (ad h1)), (2, .int x2)]) E dX0_lotSet_48 4 rfl rfl (by decide) rfl ?_
            refine jx_goto (tgt := 11) E dX0_lotSet_51 (by decide) ?_
            refine jx_sub [2, 3, 4, 1, 0] rfl ?_
            exact ih x2 (x3 ||| (1 <<< ((v5 50 (Int32.toNatClampNeg x4)) &&& 31))) (x4 + 1) v5 hF
  refine jx_aload_n E dX0_lotSet_0 0 rfl ?_
  refine jx_aload_n E dX0_lotSet_1 1 rfl ?_
  refine jx_iload_n E dX0_lotSet_2 2 rfl ?_
  obtain ⟨v1, hc1, hF⟩ := jx_bind hF
  try dsimp only at hF
  refine jx_callVv (As := [.ref (ad h1), .int x2]) (st := []) (h := 49) E dX0_lotSet_3 2 rfl (k_X0_look hI h1 hT1 x2 v v1 hc1) (gb_V (List.mem_cons_of_mem _ tw_66) (List.mem_cons_of_mem _ tw_67) (List.mem_cons_of_mem _ tw_68) (List.mem_cons_of_mem _ tw_49) tw_65) rfl rfl rfl dd_X0_look rfl (Nat.le_of_ble_eq_true rfl) s_X49 rfl ⟨by decide, by decide⟩ ⟨Nat.le_refl 0, Nat.le_refl 0⟩ (Nat.le_of_ble_eq_true rfl) ?_
  refine jx_iconst (x := 0) E dX0_lotSet_6 (by decide) ?_
  refine jx_istore_n (lv' := [(3, .int 0), (0, .ref (ad 49)), (1, .ref (ad h1)), (2, .int x2)]) E dX0_lotSet_7 (by decide) rfl ?_
  refine jx_iconst (x := 1) E dX0_lotSet_8 (by decide) ?_
  refine jx_istore (lv' := [(4, .int 1), (3, .int 0), (0, .ref (ad 49)), (1, .ref (ad h1)), (2, .int x2)]) E dX0_lotSet_9 (by decide) rfl ?_
  refine jx_sub [2, 3, 4, 1, 0] rfl ?_
  exact (key 100000) x2 0 1 v1 hF
def f_X3_squarePrice (h0 : Nat) (x1 : Int32) (v : jx_V) : Option (Int32 × jx_V) := (if (x1 < 0 ∨ 25 ≤ Int32.toNatClampNeg x1) then none else (if ((v (h0 + 6) (Int32.toNatClampNeg x1)) < 0 ∨ 4 ≤ Int32.toNatClampNeg (v (h0 + 6) (Int32.toNatClampNeg x1))) then none else (if (x1 < 0 ∨ 25 ≤ Int32.toNatClampNeg x1) then none else (if (v (h0 + 3) (Int32.toNatClampNeg x1)) = 1 then ((f_X3_isSummer h0 v).bind (fun (r5, v5) => (if r5 = 0 then (some ((v (h0 + 13) (Int32.toNatClampNeg (v (h0 + 6) (Int32.toNatClampNeg x1)))), v5)) else (some (((v (h0 + 13) (Int32.toNatClampNeg (v (h0 + 6) (Int32.toNatClampNeg x1)))) + 1), v5))))) else (if (v (h0 + 3) (Int32.toNatClampNeg x1)) = 2 then (if (v (h0 + 6) (Int32.toNatClampNeg x1)) = 0 then (some (0, v)) else (some ((v (h0 + 13) (Int32.toNatClampNeg (v (h0 + 6) (Int32.toNatClampNeg x1)))), v))) else (if (v (h0 + 3) (Int32.toNatClampNeg x1)) = 3 then ((f_X3_isSummer h0 v).bind (fun (r10, v10) => (if r10 = 0 then (some ((v (h0 + 13) (Int32.toNatClampNeg (v (h0 + 6) (Int32.toNatClampNeg x1)))), v10)) else (some (((v (h0 + 13) (Int32.toNatClampNeg (v (h0 + 6) (Int32.toNatClampNeg x1)))) + 1), v10))))) else (if (v (h0 + 3) (Int32.toNatClampNeg x1)) = 4 then (if (v (h0 + 6) (Int32.toNatClampNeg x1)) = 0 then (some (0, v)) else (some ((v (h0 + 13) (Int32.toNatClampNeg (v (h0 + 6) (Int32.toNatClampNeg x1)))), v))) else (if (v (h0 + 3) (Int32.toNatClampNeg x1)) = 5 then (some ((2 * (v (h0 + 13) (Int32.toNatClampNeg (v (h0 + 6) (Int32.toNatClampNeg x1))))), v)) else (if (v (h0 + 3) (Int32.toNatClampNeg x1)) = 6 then (some ((2 * (v (h0 + 13) (Int32.toNatClampNeg (v (h0 + 6) (Int32.toNatClampNeg x1))))), v)) else (some ((v (h0 + 13) (Int32.toNatClampNeg (v (h0 + 6) (Int32.toNatClampNeg x1)))), v)))))))))))
def rm_X3_squarePrice : Room := { frames := 1, cells := 0, slots := 0, locals := 21 }
set_option maxHeartbeats 4000000 in
set_option maxRecDepth 100000 in
theorem k_X3_squarePrice {l : Launch} {D : va_G} {cI cJ : ClassId} {ad : Nat → Nat} {A : Nat → Prop} {adK adV : Nat → Nat} (hI : jx_inj 67 ad A) (h0 : Nat) (hT0 : jx_T h0) (x1 : Int32) (v : jx_V) (r : Int32) (v' : jx_V) (hF : f_X3_squarePrice h0 x1 v = some (r, v')) : jx_Ci l D vwCl 67 cI cJ ad shX A (ex_X adK adV A) yX3_squarePrice (Cond.code yX3_squarePrice cX3_squarePrice 4 (some .int) :: bigT) rm_X3_squarePrice [.ref (ad h0), .int x1] v r v' := by
  unfold f_X3_squarePrice at hF
  refine jx_enteri bigT RX3 cX3_squarePrice 4 (some .int) [(0, .ref (ad h0)), (1, .int x1)] hI (ex_X_ok adK adV A) (by decide +kernel) rfl (Nat.le_of_ble_eq_true rfl) rfl rfl ?_
  intro p e s m args below meth c E
  have iX3 : ∀ w ∈ u_ws RX3 TX3 8, w ∈ (Cond.code yX3_squarePrice cX3_squarePrice 4 (some .int) :: bigT) := fun w h => List.mem_cons_of_mem _ (uw_X3 w h)
  refine jx_aload_n E dX3_squarePrice_0 0 rfl ?_
  refine jx_getr (C := RX3) (T := TX3) (M := 8) (k := 0) E dX3_squarePrice_1 (n_T0 hT0) (s_T0 hT0) rfl iX3 (by decide) rfl (List.mem_cons_of_mem _ tw_27) rfl ?_
  refine jx_iconst (x := 3) E dX3_squarePrice_4 (by decide) ?_
  refine jx_aald (h' := (h0 + 6)) E dX3_squarePrice_5 (n_T1 hT0) (s_T1 hT0) (show ¬ ((3 : Int32) < 0 ∨ 4 ≤ Int32.toNatClampNeg 3) by decide) rfl ?_
  refine jx_iload_n E dX3_squarePrice_6 1 rfl ?_
  obtain ⟨hg1, hF⟩ := jx_guard hF
  refine jx_iald (h := (h0 + 6)) (j := (Int32.toNatClampNeg x1)) E dX3_squarePrice_7 (n_T6 hT0) (s_T6 hT0) hg1 rfl ?_
  refine jx_istore_n (lv' := [(2, .int (v (h0 + 6) (Int32.toNatClampNeg x1))), (0, .ref (ad h0)), (1, .int x1)]) E dX3_squarePrice_8 (by decide) rfl ?_
  refine jx_aload_n E dX3_squarePrice_9 1 rfl ?_
  refine jx_getr (C := RX3) (T := TX3) (M := 8) (k := 2) E dX3_squarePrice_10 (n_T0 hT0) (s_T0 hT0) rfl iX3 (by decide) rfl (List.mem_cons_of_mem _ tw_73) rfl ?_
  refine jx_iload_n E dX3_squarePrice_13 0 rfl ?_
  obtain ⟨hg2, hF⟩ := jx_guard hF
  refine jx_iald (h := (h0 + 13)) (j := (Int32.toNatClampNeg (v (h0 + 6) (Int32.toNatClampNeg x1)))) E dX3_squarePrice_14 (n_T13 hT0) (s_T13 hT0) hg2 rfl ?_
  refine jx_istore_n (lv' := [(3, .int (v (h0 + 13) (Int32.toNatClampNeg (v (h0 + 6) (Int32.toNatClampNeg x1))))), (2, .int (v (h0 + 6) (Int32.toNatClampNeg x1))), (0, .ref (ad h0)), (1, .int x1)]) E dX3_squarePrice_15 (by decide) rfl ?_
  refine jx_aload_n E dX3_squarePrice_16 2 rfl ?_
  refine jx_getr (C := RX3) (T := TX3) (M := 8) (k := 0) E dX3_squarePrice_17 (n_T0 hT0) (s_T0 hT0) rfl iX3 (by decide) rfl (List.mem_cons_of_mem _ tw_27) rfl ?_
  refine jx_iconst (x := 0) E dX3_squarePrice_20 (by decide) ?_
  refine jx_aald (h' := (h0 + 3)) E dX3_squarePrice_21 (n_T1 hT0) (s_T1 hT0) (show ¬ ((0 : Int32) < 0 ∨ 4 ≤ Int32.toNatClampNeg 0) by decide) rfl ?_
  refine jx_iload_n E dX3_squarePrice_22 3 rfl ?_
  obtain ⟨hg3, hF⟩ := jx_guard hF
  refine jx_iald (h := (h0 + 3)) (j := (Int32.toNatClampNeg x1)) E dX3_squarePrice_23 (n_T3 hT0) (s_T3 hT0) hg3 rfl ?_
  by_cases hc4 : (v (h0 + 3) (Int32.toNatClampNeg x1)) = 1
  · rw [if_pos hc4] at hF
    refine jx_tableIn (tgt := 64) (z := 1) E dX3_squarePrice_24 hc4 (by decide) (by decide) rfl (by decide) ?_
    refine jx_aload_n E dX3_squarePrice_64 2 rfl ?_
    obtain ⟨⟨r5, v5⟩, hc5, hF⟩ := jx_bind hF
    try dsimp only at hF
    refine jx_callVi (As := []) (st := []) (h := h0) E dX3_squarePrice_65 0 rfl (k_X3_isSummer hI h0 hT0 v r5 v5 hc5) (gb_V (List.mem_cons_of_mem _ tw_30) (List.mem_cons_of_mem _ tw_31) (List.mem_cons_of_mem _ tw_32) (List.mem_cons_of_mem _ tw_33) tw_29) rfl rfl rfl dd_X3_isSummer rfl (n_T0 hT0) (s_T0 hT0) rfl ⟨by decide, by decide⟩ ⟨Nat.le_refl 0, Nat.le_refl 0⟩ (Nat.le_of_ble_eq_true rfl) ?_
    refine jx_if_eq (tgt := 77) E dX3_squarePrice_68 (by decide) (fun hc6 => ?_) (fun hc6 => ?_)
    · rw [if_pos hc6] at hF
      refine jx_iload_n E dX3_squarePrice_77 0 rfl ?_
      obtain ⟨rfl, rfl⟩ := jx_out hF
      exact jx_iret E dX3_squarePrice_78 rfl
    · rw [if_neg hc6] at hF
      refine jx_iload_n E dX3_squarePrice_71 0 rfl ?_
      refine jx_iconst (x := 1) E dX3_squarePrice_72 (by decide) ?_
      refine jx_iadd E dX3_squarePrice_73 ?_
      refine jx_goto (tgt := 78) E dX3_squarePrice_74 (by decide) ?_
      obtain ⟨rfl, rfl⟩ := jx_out hF
      exact jx_iret E dX3_squarePrice_78 rfl
  rw [if_neg hc4] at hF
  by_cases hc7 : (v (h0 + 3) (Int32.toNatClampNeg x1)) = 2
  · rw [if_pos hc7] at hF
    refine jx_tableIn (tgt := 79) (z := 2) E dX3_squarePrice_24 hc7 (by decide) (by decide) rfl (by decide) ?_
    refine jx_iload_n E dX3_squarePrice_79 1 rfl ?_
    refine jx_if_ne (tgt := 87) E dX3_squarePrice_80 (by decide) (fun hc8 => ?_) (fun hc8 => ?_)
    · rw [if_neg hc8] at hF
      refine jx_iload_n E dX3_squarePrice_87 0 rfl ?_
      obtain ⟨rfl, rfl⟩ := jx_out hF
      exact jx_iret E dX3_squarePrice_88 rfl
    · rw [if_pos hc8] at hF
      refine jx_iconst (x := 0) E dX3_squarePrice_83 (by decide) ?_
      refine jx_goto (tgt := 88) E dX3_squarePrice_84 (by decide) ?_
      obtain ⟨rfl, rfl⟩ := jx_out hF
      exact jx_iret E dX3_squarePrice_88 rfl
  rw [if_neg hc7] at hF
  by_cases hc9 : (v (h0 + 3) (Int32.toNatClampNeg x1)) = 3
  · rw [if_pos hc9] at hF
    refine jx_tableIn (tgt := 64) (z := 3) E dX3_squarePrice_24 hc9 (by decide) (by decide) rfl (by decide) ?_
    refine jx_aload_n E dX3_squarePrice_64 2 rfl ?_
    obtain ⟨⟨r10, v10⟩, hc10, hF⟩ := jx_bind hF
    try dsimp only at hF
    refine jx_callVi (As := []) (st := []) (h := h0) E dX3_squarePrice_65 0 rfl (k_X3_isSummer hI h0 hT0 v r10 v10 hc10) (gb_V (List.mem_cons_of_mem _ tw_30) (List.mem_cons_of_mem _ tw_31) (List.mem_cons_of_mem _ tw_32) (List.mem_cons_of_mem _ tw_33) tw_29) rfl rfl rfl dd_X3_isSummer rfl (n_T0 hT0) (s_T0 hT0) rfl ⟨by decide, by decide⟩ ⟨Nat.le_refl 0, Nat.le_refl 0⟩ (Nat.le_of_ble_eq_true rfl) ?_
    refine jx_if_eq (tgt := 77) E dX3_squarePrice_68 (by decide) (fun hc11 => ?_) (fun hc11 => ?_)
    · rw [if_pos hc11] at hF
      refine jx_iload_n E dX3_squarePrice_77 0 rfl ?_
      obtain ⟨rfl, rfl⟩ := jx_out hF
      exact jx_iret E dX3_squarePrice_78 rfl
    · rw [if_neg hc11] at hF
      refine jx_iload_n E dX3_squarePrice_71 0 rfl ?_
      refine jx_iconst (x := 1) E dX3_squarePrice_72 (by decide) ?_
      refine jx_iadd E dX3_squarePrice_73 ?_
      refine jx_goto (tgt := 78) E dX3_squarePrice_74 (by decide) ?_
      obtain ⟨rfl, rfl⟩ := jx_out hF
      exact jx_iret E dX3_squarePrice_78 rfl
  rw [if_neg hc9] at hF
  by_cases hc12 : (v (h0 + 3) (Int32.toNatClampNeg x1)) = 4
  · rw [if_pos hc12] at hF
    refine jx_tableIn (tgt := 79) (z := 4) E dX3_squarePrice_24 hc12 (by decide) (by decide) rfl (by decide) ?_
    refine jx_iload_n E dX3_squarePrice_79 1 rfl ?_
    refine jx_if_ne (tgt := 87) E dX3_squarePrice_80 (by decide) (fun hc13 => ?_) (fun hc13 => ?_)
    · rw [if_neg hc13] at hF
      refine jx_iload_n E dX3_squarePrice_87 0 rfl ?_
      obtain ⟨rfl, rfl⟩ := jx_out hF
      exact jx_iret E dX3_squarePrice_88 rfl
    · rw [if_pos hc13] at hF
      refine jx_iconst (x := 0) E dX3_squarePrice_83 (by decide) ?_
      refine jx_goto (tgt := 88) E dX3_squarePrice_84 (by decide) ?_
      obtain ⟨rfl, rfl⟩ := jx_out hF
      exact jx_iret E dX3_squarePrice_88 rfl
  rw [if_neg hc12] at hF
  by_cases hc14 : (v (h0 + 3) (Int32.toNatClampNeg x1)) = 5
  · rw [if_pos hc14] at hF
    refine jx_tableIn (tgt := 89) (z := 5) E dX3_squarePrice_24 hc14 (by decide) (by decide) rfl (by decide) ?_
    refine jx_iconst (x := 2) E dX3_squarePrice_89 (by decide) ?_
    refine jx_iload_n E dX3_squarePrice_90 0 rfl ?_
    refine jx_imul E dX3_squarePrice_91 ?_
    obtain ⟨rfl, rfl⟩ := jx_out hF
    exact jx_iret E dX3_squarePrice_92 rfl
  rw [if_neg hc14] at hF
  by_cases hc15 : (v (h0 + 3) (Int32.toNatClampNeg x1)) = 6
  · rw [if_pos hc15] at hF
    refine jx_tableIn (tgt := 89) (z := 6) E dX3_squarePrice_24 hc15 (by decide) (by decide) rfl (by decide) ?_
    refine jx_iconst (x := 2) E dX3_squarePrice_89 (by decide) ?_
    refine jx_iload_n E dX3_squarePrice_90 0 rfl ?_
    refine jx_imul E dX3_squarePrice_91 ?_
    obtain ⟨rfl, rfl⟩ := jx_out hF
    exact jx_iret E dX3_squarePrice_92 rfl
  rw [if_neg hc15] at hF
  refine jx_tableOut (tgt := 93) E dX3_squarePrice_24 (by have hz4 := jx_ne hc4 (k := 1) (by decide); have hz7 := jx_ne hc7 (k := 2) (by decide); have hz9 := jx_ne hc9 (k := 3) (by decide); have hz12 := jx_ne hc12 (k := 4) (by decide); have hz14 := jx_ne hc14 (k := 5) (by decide); have hz15 := jx_ne hc15 (k := 6) (by decide); omega) (by decide) ?_
  refine jx_iload_n E dX3_squarePrice_93 0 rfl ?_
  obtain ⟨rfl, rfl⟩ := jx_out hF
  exact jx_iret E dX3_squarePrice_94 rfl
def f_X0_pay_L (h1 : Nat) (h3 : Nat) : Nat → Int32 → Int32 → Int32 → Int32 → jx_V → Option (Int32 × jx_V)
  | 0, _, _, _, _, _ => none
  | n + 1, x2, x4, x5, x6, v => (if 4 < x6 then (if (x4 < 0 ∨ 4 ≤ Int32.toNatClampNeg x4) then none else (if (x4 < 0 ∨ 4 ≤ Int32.toNatClampNeg x4) then none else (some (x5, (jx_up v h3 (Int32.toNatClampNeg x4) ((v h3 (Int32.toNatClampNeg x4)) - x5)))))) else (if (x6 < 0 ∨ 5 ≤ Int32.toNatClampNeg x6) then none else (if (v 50 (Int32.toNatClampNeg x6)) < 0 then (f_X0_pay_L h1 h3 n x2 x4 x5 (x6 + 1) v) else (if ((v 50 (Int32.toNatClampNeg x6)) < 0 ∨ 25 ≤ Int32.toNatClampNeg (v 50 (Int32.toNatClampNeg x6))) then none else (if (v (h1 + 4) (Int32.toNatClampNeg (v 50 (Int32.toNatClampNeg x6)))) = x4 then (f_X0_pay_L h1 h3 n x2 x4 x5 (x6 + 1) v) else ((f_X0_squares x6 v).bind (fun (r10, v10) => ((f_X3_squarePrice h1 (v 50 (Int32.toNatClampNeg x6)) v10).bind (fun (r11, v11) => (if ((v 50 (Int32.toNatClampNeg x6)) < 0 ∨ 25 ≤ Int32.toNatClampNeg (v 50 (Int32.toNatClampNeg x6))) then none else (if ((v11 (h1 + 4) (Int32.toNatClampNeg (v 50 (Int32.toNatClampNeg x6)))) < 0 ∨ 4 ≤ Int32.toNatClampNeg (v11 (h1 + 4) (Int32.toNatClampNeg (v 50 (Int32.toNatClampNeg x6))))) then none else (if ((v11 (h1 + 4) (Int32.toNatClampNeg (v 50 (Int32.toNatClampNeg x6)))) < 0 ∨ 4 ≤ Int32.toNatClampNeg (v11 (h1 + 4) (Int32.toNatClampNeg (v 50 (Int32.toNatClampNeg x6))))) then none else (f_X0_pay_L h1 h3 n x2 x4 (x5 + (r10 * r11)) (x6 + 1) (jx_up v11 h3 (Int32.toNatClampNeg (v11 (h1 + 4) (Int32.toNatClampNeg (v 50 (Int32.toNatClampNeg x6))))) ((v11 h3 (Int32.toNatClampNeg (v11 (h1 + 4) (Int32.toNatClampNeg (v 50 (Int32.toNatClampNeg x6)))))) + (r10 * r11))))))))))))))))
def f_X0_pay (h1 : Nat) (x2 : Int32) (h3 : Nat) (v : jx_V) : Option (Int32 × jx_V) := ((f_X0_look h1 x2 v).bind (fun v1 => (if (x2 < 0 ∨ 10 ≤ Int32.toNatClampNeg x2) then none else (f_X0_pay_L h1 h3 100000 x2 (v1 (h1 + 10) (Int32.toNatClampNeg x2)) 0 1 v1))))
def rm_X0_pay : Room := { frames := 3, cells := 0, slots := 0, locals := 73 }
set_option maxHeartbeats 4000000 in
set_option maxRecDepth 100000 in
theorem k_X0_pay {l : Launch} {D : va_G} {cI cJ : ClassId} {ad : Nat → Nat} {A : Nat → Prop} {adK adV : Nat → Nat} (hI : jx_inj 67 ad A) (h1 : Nat) (hT1 : jx_T h1) (x2 : Int32) (h3 : Nat) (hS3 : shX h3 = .inl 4) (hN3 : h3 < 67) (v : jx_V) (r : Int32) (v' : jx_V) (hF : f_X0_pay h1 x2 h3 v = some (r, v')) : jx_Ci l D vwCl 67 cI cJ ad shX A (ex_X adK adV A) yX0_pay (Cond.code yX0_pay cX0_pay 9 (some .int) :: bigT) rm_X0_pay [.ref (ad 49), .ref (ad h1), .int x2, .ref (ad h3)] v r v' := by
  unfold f_X0_pay at hF
  refine jx_enteri bigT RX0 cX0_pay 9 (some .int) [(0, .ref (ad 49)), (1, .ref (ad h1)), (2, .int x2), (3, .ref (ad h3))] hI (ex_X_ok adK adV A) (by decide +kernel) rfl (Nat.le_of_ble_eq_true rfl) rfl rfl ?_
  intro p e s m args below meth c E
  have iX0 : ∀ w ∈ u_ws RX0 TX0 3, w ∈ (Cond.code yX0_pay cX0_pay 9 (some .int) :: bigT) := fun w h => List.mem_cons_of_mem _ (uw_X0 w h)
  have iX3 : ∀ w ∈ u_ws RX3 TX3 8, w ∈ (Cond.code yX0_pay cX0_pay 9 (some .int) :: bigT) := fun w h => List.mem_cons_of_mem _ (uw_X3 w h)
  have key : ∀ n : Nat, (∀ (x2 : Int32) (x4 : Int32) (x5 : Int32) (x6 : Int32) (v : jx_V), f_X0_pay_L h1 h3 n  x2 x4 x5 x6 v = some (r, v') → jx_J p l e rm_X0_pay s m args below meth c D vwCl 67 cI cJ ad shX A 0 0 9 (MQ below (va_Qi (fun (r1 : Int32) (_ : Unit) => r1 = r) (fun _ t => va_P D vwCl (jx_ws 67 cI cJ ad shX v') t.heap) A) args s 0 0 A) v 22 [(0, .ref (ad 49)), (1, .ref (ad h1)), (2, .int x2), (3, .ref (ad h3)), (4, .int x4), (5, .int x5), (6, .int x6)] []) := by
    intro n
    induction n with
    | zero =>
      exact (fun _ _ _ _ _ h => by cases h)
    | succ n ih =>
      intro x2 x4 x5 x6 v hF
      rw [f_X0_pay_L] at hF
      refine jx_iload E dX0_pay_22 6 rfl ?_
      refine jx_iconst (x := 4) E dX0_pay_24 (by decide) ?_
      refine jx_icmp_gt (tgt := 100) E dX0_pay_25 (by decide) (fun hc3 => ?_) (fun hc3 => ?_)
      · rw [if_pos hc3] at hF
        refine jx_aload_n E dX0_pay_100 3 rfl ?_
        refine jx_iload E dX0_pay_101 4 rfl ?_
        refine jx_dup2 E dX0_pay_103 rfl rfl ?_
        obtain ⟨hg4, hF⟩ := jx_guard hF
        refine jx_iald (h := h3) (j := (Int32.toNatClampNeg x4)) E dX0_pay_104 hN3 hS3 hg4 rfl ?_
        refine jx_iload E dX0_pay_105 5 rfl ?_
        refine jx_isub E dX0_pay_107 ?_
        obtain ⟨hg5, hF⟩ := jx_guard hF
        refine jx_iast (h := h3) (j := (Int32.toNatClampNeg x4)) E dX0_pay_108 hN3 hS3 hg5 rfl ?_
        refine jx_iload E dX0_pay_109 5 rfl ?_
        obtain ⟨rfl, rfl⟩ := jx_out hF
        exact jx_iret E dX0_pay_111 rfl
      · rw [if_neg hc3] at hF
        refine jx_aload_n E dX0_pay_28 0 rfl ?_
        refine jx_getr (C := RX0) (T := TX0) (M := 3) (k := 0) E dX0_pay_29 (Nat.le_of_ble_eq_true rfl) s_X49 rfl iX0 (by decide) rfl (List.mem_cons_of_mem _ tw_38) rfl ?_
        refine jx_iload E dX0_pay_32 6 rfl ?_
        obtain ⟨hg6, hF⟩ := jx_guard hF
        refine jx_iald (h := 50) (j := (Int32.toNatClampNeg x6)) E dX0_pay_34 (Nat.le_of_ble_eq_true rfl) s_X50 hg6 rfl ?_
        refine jx_istore (lv' := [(7, .int (v 50 (Int32.toNatClampNeg x6))), (0, .ref (ad 49)), (1, .ref (ad h1)), (2, .int x2), (3, .ref (ad h3)), (4, .int x4), (5, .int x5), (6, .int x6)]) E dX0_pay_35 (by decide) rfl ?_
        refine jx_iload E dX0_pay_37 0 rfl ?_
        refine jx_if_lt (tgt := 94) E dX0_pay_39 (by decide) (fun hc7 => ?_) (fun hc7 => ?_)
        · rw [if_pos hc7] at hF
          refine jx_iinc (y := (x6 + 1)) (lv' := [(6, .int (x6 + 1)), (7, .int (v 50 (Int32.toNatClampNeg x6))), (0, .ref (ad 49)), (1, .ref (ad h1)), (2, .int x2), (3, .ref (ad h3)), (4, .int x4), (5, .int x5)]) E dX0_pay_94 7 rfl rfl (by decide) rfl ?_
          refine jx_goto (tgt := 22) E dX0_pay_97 (by decide) ?_
          refine jx_sub [2, 3, 4, 5, 6, 7, 0] rfl ?_
          exact ih x2 x4 x5 (x6 + 1) v hF
        · rw [if_neg hc7] at hF
          refine jx_aload_n E dX0_pay_42 2 rfl ?_
          refine jx_getrN (C := RX3) (T := TX3) (M := 8) (k := 0) E dX0_pay_43 (n_T0 hT1) (s_T0 hT1) rfl iX3 (by decide) rfl (ex_f1 (jx_ex E)) rfl ?_
          refine jx_iconst (x := 1) E dX0_pay_46 (by decide) ?_
          refine jx_aald (h' := (h1 + 4)) E dX0_pay_47 (n_T1 hT1) (s_T1 hT1) (show ¬ ((1 : Int32) < 0 ∨ 4 ≤ Int32.toNatClampNeg 1) by decide) rfl ?_
          refine jx_iload E dX0_pay_48 0 rfl ?_
          obtain ⟨hg8, hF⟩ := jx_guard hF
          refine jx_iald (h := (h1 + 4)) (j := (Int32.toNatClampNeg (v 50 (Int32.toNatClampNeg x6)))) E dX0_pay_50 (n_T4 hT1) (s_T4 hT1) hg8 rfl ?_
          refine jx_iload E dX0_pay_51 5 rfl ?_
          refine jx_icmp_eq (tgt := 94) E dX0_pay_53 (by decide) (fun hc9 => ?_) (fun hc9 => ?_)
          · rw [if_pos hc9] at hF
            refine jx_iinc (y := (x6 + 1)) (lv' := [(6, .int (x6 + 1)), (7, .int (v 50 (Int32.toNatClampNeg x6))), (0, .ref (ad 49)), (1, .ref (ad h1)), (2, .int x2), (3, .ref (ad h3)), (4, .int x4), (5, .int x5)]) E dX0_pay_94 7 rfl rfl (by decide) rfl ?_
            refine jx_goto (tgt := 22) E dX0_pay_97 (by decide) ?_
            refine jx_sub [2, 3, 4, 5, 6, 7, 0] rfl ?_
            exact ih x2 x4 x5 (x6 + 1) v hF
          · rw [if_neg hc9] at hF
            refine jx_aload_n E dX0_pay_56 1 rfl ?_
            refine jx_iload E dX0_pay_57 7 rfl ?_
            obtain ⟨⟨r10, v10⟩, hc10, hF⟩ := jx_bind hF
            try dsimp only at hF
            refine jx_callVi (As := [.int x6]) (st := []) (h := 49) E dX0_pay_59 1 rfl (k_X0_squares hI x6 v r10 v10 hc10) (gb_V (List.mem_cons_of_mem _ tw_62) (List.mem_cons_of_mem _ tw_63) (List.mem_cons_of_mem _ tw_64) (List.mem_cons_of_mem _ tw_49) tw_61) rfl rfl rfl dd_X0_squares rfl (Nat.le_of_ble_eq_true rfl) s_X49 rfl ⟨by decide, by decide⟩ ⟨Nat.le_refl 0, Nat.le_refl 0⟩ (Nat.le_of_ble_eq_true rfl) ?_
            refine jx_aload_n E dX0_pay_62 2 rfl ?_
            refine jx_iload E dX0_pay_63 0 rfl ?_
            obtain ⟨⟨r11, v11⟩, hc11, hF⟩ := jx_bind hF
            try dsimp only at hF
            refine jx_callNi (As := [.int (v 50 (Int32.toNatClampNeg x6))]) (st := [.int r10]) (h := h1) E dX0_pay_65 1 rfl (k_X3_squarePrice hI h1 hT1 (v 50 (Int32.toNatClampNeg x6)) v10 r11 v11 hc11) (gb_N tw_74) rfl rfl rfl (ex_m21 (jx_ex E)) (List.mem_cons_of_mem _ tw_33) (List.mem_cons_of_mem _ tw_75) (List.mem_cons_of_mem _ tw_76) dd_X3_squarePrice.2 rfl (n_T0 hT1) (s_T0 hT1) rfl ⟨by decide, by decide⟩ ⟨Nat.le_refl 0, Nat.le_refl 0⟩ (Nat.le_of_ble_eq_true rfl) ?_
            refine jx_imul E dX0_pay_68 ?_
            refine jx_istore (lv' := [(8, .int (r10 * r11)), (7, .int (v 50 (Int32.toNatClampNeg x6))), (0, .ref (ad 49)), (1, .ref (ad h1)), (2, .int x2), (3, .ref (ad h3)), (4, .int x4), (5, .int x5), (6, .int x6)]) E dX0_pay_69 (by decide) rfl ?_
            refine jx_aload_n E dX0_pay_71 5 rfl ?_
            refine jx_aload_n E dX0_pay_72 3 rfl ?_
            refine jx_getrN (C := RX3) (T := TX3) (M := 8) (k := 0) E dX0_pay_73 (n_T0 hT1) (s_T0 hT1) rfl iX3 (by decide) rfl (ex_f1 (jx_ex E)) rfl ?_
            refine jx_iconst (x := 1) E dX0_pay_76 (by decide) ?_
            refine jx_aald (h' := (h1 + 4)) E dX0_pay_77 (n_T1 hT1) (s_T1 hT1) (show ¬ ((1 : Int32) < 0 ∨ 4 ≤ Int32.toNatClampNeg 1) by decide) rfl ?_
            refine jx_iload E dX0_pay_78 1 rfl ?_
            obtain ⟨hg12, hF⟩ := jx_guard hF
            refine jx_iald (h := (h1 + 4)) (j := (Int32.toNatClampNeg (v 50 (Int32.toNatClampNeg x6)))) E dX0_pay_80 (n_T4 hT1) (s_T4 hT1) hg12 rfl ?_
            refine jx_dup2 E dX0_pay_81 rfl rfl ?_
            obtain ⟨hg13, hF⟩ := jx_guard hF
            refine jx_iald (h := h3) (j := (Int32.toNatClampNeg (v11 (h1 + 4) (Int32.toNatClampNeg (v 50 (Int32.toNatClampNeg x6)))))) E dX0_pay_82 hN3 hS3 hg13 rfl ?_
            refine jx_iload E dX0_pay_83 0 rfl ?_
            refine jx_iadd E dX0_pay_85 ?_
            obtain ⟨hg14, hF⟩ := jx_guard hF
            refine jx_iast (h := h3) (j := (Int32.toNatClampNeg (v11 (h1 + 4) (Int32.toNatClampNeg (v 50 (Int32.toNatClampNeg x6)))))) E dX0_pay_86 hN3 hS3 hg14 rfl ?_
            refine jx_iload E dX0_pay_87 7 rfl ?_
            refine jx_iload E dX0_pay_89 0 rfl ?_
            refine jx_iadd E dX0_pay_91 ?_
            refine jx_istore (lv' := [(5, .int (x5 + (r10 * r11))), (8, .int (r10 * r11)), (7, .int (v 50 (Int32.toNatClampNeg x6))), (0, .ref (ad 49)), (1, .ref (ad h1)), (2, .int x2), (3, .ref (ad h3)), (4, .int x4), (6, .int x6)]) E dX0_pay_92 (by decide) rfl ?_
            refine jx_iinc (y := (x6 + 1)) (lv' := [(6, .int (x6 + 1)), (5, .int (x5 + (r10 * r11))), (8, .int (r10 * r11)), (7, .int (v 50 (Int32.toNatClampNeg x6))), (0, .ref (ad 49)), (1, .ref (ad h1)), (2, .int x2), (3, .ref (ad h3)), (4, .int x4)]) E dX0_pay_94 8 rfl rfl (by decide) rfl ?_
            refine jx_goto (tgt := 22) E dX0_pay_97 (by decide) ?_
            refine jx_sub [4, 5, 6, 7, 8, 1, 0] rfl ?_
            exact ih x2 x4 (x5 + (r10 * r11)) (x6 + 1) (jx_up v11 h3 (Int32.toNatClampNeg (v11 (h1 + 4) (Int32.toNatClampNeg (v 50 (Int32.toNatClampNeg x6))))) ((v11 h3 (Int32.toNatClampNeg (v11 (h1 + 4) (Int32.toNatClampNeg (v 50 (Int32.toNatClampNeg x6)))))) + (r10 * r11))) hF
  refine jx_aload_n E dX0_pay_0 0 rfl ?_
  refine jx_aload_n E dX0_pay_1 1 rfl ?_
  refine jx_iload_n E dX0_pay_2 2 rfl ?_
  obtain ⟨v1, hc1, hF⟩ := jx_bind hF
  try dsimp only at hF
  refine jx_callVv (As := [.ref (ad h1), .int x2]) (st := []) (h := 49) E dX0_pay_3 2 rfl (k_X0_look hI h1 hT1 x2 v v1 hc1) (gb_V (List.mem_cons_of_mem _ tw_66) (List.mem_cons_of_mem _ tw_67) (List.mem_cons_of_mem _ tw_68) (List.mem_cons_of_mem _ tw_49) tw_65) rfl rfl rfl dd_X0_look rfl (Nat.le_of_ble_eq_true rfl) s_X49 rfl ⟨by decide, by decide⟩ ⟨Nat.le_refl 0, Nat.le_refl 0⟩ (Nat.le_of_ble_eq_true rfl) ?_
  refine jx_aload_n E dX0_pay_6 1 rfl ?_
  refine jx_getrN (C := RX3) (T := TX3) (M := 8) (k := 1) E dX0_pay_7 (n_T0 hT1) (s_T0 hT1) rfl iX3 (by decide) rfl (ex_f2 (jx_ex E)) rfl ?_
  refine jx_iconst (x := 3) E dX0_pay_10 (by decide) ?_
  refine jx_aald (h' := (h1 + 10)) E dX0_pay_11 (n_T2 hT1) (s_T2 hT1) (show ¬ ((3 : Int32) < 0 ∨ 6 ≤ Int32.toNatClampNeg 3) by decide) rfl ?_
  refine jx_iload_n E dX0_pay_12 2 rfl ?_
  obtain ⟨hg2, hF⟩ := jx_guard hF
  refine jx_iald (h := (h1 + 10)) (j := (Int32.toNatClampNeg x2)) E dX0_pay_13 (n_T10 hT1) (s_T10 hT1) hg2 rfl ?_
  refine jx_istore (lv' := [(4, .int (v1 (h1 + 10) (Int32.toNatClampNeg x2))), (0, .ref (ad 49)), (1, .ref (ad h1)), (2, .int x2), (3, .ref (ad h3))]) E dX0_pay_14 (by decide) rfl ?_
  refine jx_iconst (x := 0) E dX0_pay_16 (by decide) ?_
  refine jx_istore (lv' := [(5, .int 0), (4, .int (v1 (h1 + 10) (Int32.toNatClampNeg x2))), (0, .ref (ad 49)), (1, .ref (ad h1)), (2, .int x2), (3, .ref (ad h3))]) E dX0_pay_17 (by decide) rfl ?_
  refine jx_iconst (x := 1) E dX0_pay_19 (by decide) ?_
  refine jx_istore (lv' := [(6, .int 1), (5, .int 0), (4, .int (v1 (h1 + 10) (Int32.toNatClampNeg x2))), (0, .ref (ad 49)), (1, .ref (ad h1)), (2, .int x2), (3, .ref (ad h3))]) E dX0_pay_20 (by decide) rfl ?_
  refine jx_sub [3, 4, 5, 6, 2, 1, 0] rfl ?_
  exact (key 100000) x2 (v1 (h1 + 10) (Int32.toNatClampNeg x2)) 0 1 v1 hF
