def f_J6_compare_7cf53 (x0 : Int32) (x1 : Int32) (v : jx_V) : Option (Int32 × jx_V) := (if x1 ≤ x0 then (if x0 = x1 then (some (0, v)) else (some (1, v))) else (some ((-1), v)))
def rm_J6_compare_7cf53 : Room := { frames := 0, cells := 0, slots := 0, locals := 0 }
set_option maxHeartbeats 4000000 in
set_option maxRecDepth 100000 in
theorem k_J6_compare_7cf53 {l : Launch} {D : va_G} {cI cJ : ClassId} {ad : Nat → Nat} {A : Nat → Prop} {adK adV : Nat → Nat} (hI : jx_inj 67 ad A) (x0 : Int32) (x1 : Int32) (v : jx_V) (r : Int32) (v' : jx_V) (hF : f_J6_compare_7cf53 x0 x1 v = some (r, v')) : jx_Ci l D vwCl 67 cI cJ ad shX A (ex_X adK adV A) yJ6_compare_7cf53 (Cond.code yJ6_compare_7cf53 cJ6_compare_7cf53 2 (some .int) :: bigT) rm_J6_compare_7cf53 [.int x0, .int x1] v r v' := by
  unfold f_J6_compare_7cf53 at hF
  refine jx_enteri bigT RJ6 cJ6_compare_7cf53 2 (some .int) [(0, .int x0), (1, .int x1)] hI (ex_X_ok adK adV A) (by decide +kernel) rfl (Nat.le_of_ble_eq_true rfl) rfl rfl ?_
  intro p e s m args below meth c E
  refine jx_iload_n E dJ6_compare_7cf53_0 0 rfl ?_
  refine jx_iload_n E dJ6_compare_7cf53_1 1 rfl ?_
  refine jx_icmp_ge (tgt := 9) E dJ6_compare_7cf53_2 (by decide) (fun hc1 => ?_) (fun hc1 => ?_)
  · rw [if_pos hc1] at hF
    refine jx_iload_n E dJ6_compare_7cf53_9 0 rfl ?_
    refine jx_iload_n E dJ6_compare_7cf53_10 1 rfl ?_
    refine jx_icmp_ne (tgt := 18) E dJ6_compare_7cf53_11 (by decide) (fun hc2 => ?_) (fun hc2 => ?_)
    · rw [if_neg hc2] at hF
      refine jx_iconst (x := 1) E dJ6_compare_7cf53_18 (by decide) ?_
      obtain ⟨rfl, rfl⟩ := jx_out hF
      exact jx_iret E dJ6_compare_7cf53_19 rfl
    · rw [if_pos hc2] at hF
      refine jx_iconst (x := 0) E dJ6_compare_7cf53_14 (by decide) ?_
      refine jx_goto (tgt := 19) E dJ6_compare_7cf53_15 (by decide) ?_
      obtain ⟨rfl, rfl⟩ := jx_out hF
      exact jx_iret E dJ6_compare_7cf53_19 rfl
  · rw [if_neg hc1] at hF
    refine jx_iconst (x := -1) E dJ6_compare_7cf53_5 (by decide) ?_
    refine jx_goto (tgt := 19) E dJ6_compare_7cf53_6 (by decide) ?_
    obtain ⟨rfl, rfl⟩ := jx_out hF
    exact jx_iret E dJ6_compare_7cf53_19 rfl
def f_J6_bitCount_0f7a4 (x0 : Int32) (v : jx_V) : Option (Int32 × jx_V) := (some (((((((((x0 - ((Int32.toUInt32 x0 >>> (Int32.toUInt32 1 &&& Int32.toUInt32 31)).toInt32 &&& 1431655765)) &&& 858993459) + ((Int32.toUInt32 (x0 - ((Int32.toUInt32 x0 >>> (Int32.toUInt32 1 &&& Int32.toUInt32 31)).toInt32 &&& 1431655765)) >>> (Int32.toUInt32 2 &&& Int32.toUInt32 31)).toInt32 &&& 858993459)) + (Int32.toUInt32 (((x0 - ((Int32.toUInt32 x0 >>> (Int32.toUInt32 1 &&& Int32.toUInt32 31)).toInt32 &&& 1431655765)) &&& 858993459) + ((Int32.toUInt32 (x0 - ((Int32.toUInt32 x0 >>> (Int32.toUInt32 1 &&& Int32.toUInt32 31)).toInt32 &&& 1431655765)) >>> (Int32.toUInt32 2 &&& Int32.toUInt32 31)).toInt32 &&& 858993459)) >>> (Int32.toUInt32 4 &&& Int32.toUInt32 31)).toInt32) &&& 252645135) + (Int32.toUInt32 (((((x0 - ((Int32.toUInt32 x0 >>> (Int32.toUInt32 1 &&& Int32.toUInt32 31)).toInt32 &&& 1431655765)) &&& 858993459) + ((Int32.toUInt32 (x0 - ((Int32.toUInt32 x0 >>> (Int32.toUInt32 1 &&& Int32.toUInt32 31)).toInt32 &&& 1431655765)) >>> (Int32.toUInt32 2 &&& Int32.toUInt32 31)).toInt32 &&& 858993459)) + (Int32.toUInt32 (((x0 - ((Int32.toUInt32 x0 >>> (Int32.toUInt32 1 &&& Int32.toUInt32 31)).toInt32 &&& 1431655765)) &&& 858993459) + ((Int32.toUInt32 (x0 - ((Int32.toUInt32 x0 >>> (Int32.toUInt32 1 &&& Int32.toUInt32 31)).toInt32 &&& 1431655765)) >>> (Int32.toUInt32 2 &&& Int32.toUInt32 31)).toInt32 &&& 858993459)) >>> (Int32.toUInt32 4 &&& Int32.toUInt32 31)).toInt32) &&& 252645135) >>> (Int32.toUInt32 8 &&& Int32.toUInt32 31)).toInt32) + (Int32.toUInt32 ((((((x0 - ((Int32.toUInt32 x0 >>> (Int32.toUInt32 1 &&& Int32.toUInt32 31)).toInt32 &&& 1431655765)) &&& 858993459) + ((Int32.toUInt32 (x0 - ((Int32.toUInt32 x0 >>> (Int32.toUInt32 1 &&& Int32.toUInt32 31)).toInt32 &&& 1431655765)) >>> (Int32.toUInt32 2 &&& Int32.toUInt32 31)).toInt32 &&& 858993459)) + (Int32.toUInt32 (((x0 - ((Int32.toUInt32 x0 >>> (Int32.toUInt32 1 &&& Int32.toUInt32 31)).toInt32 &&& 1431655765)) &&& 858993459) + ((Int32.toUInt32 (x0 - ((Int32.toUInt32 x0 >>> (Int32.toUInt32 1 &&& Int32.toUInt32 31)).toInt32 &&& 1431655765)) >>> (Int32.toUInt32 2 &&& Int32.toUInt32 31)).toInt32 &&& 858993459)) >>> (Int32.toUInt32 4 &&& Int32.toUInt32 31)).toInt32) &&& 252645135) + (Int32.toUInt32 (((((x0 - ((Int32.toUInt32 x0 >>> (Int32.toUInt32 1 &&& Int32.toUInt32 31)).toInt32 &&& 1431655765)) &&& 858993459) + ((Int32.toUInt32 (x0 - ((Int32.toUInt32 x0 >>> (Int32.toUInt32 1 &&& Int32.toUInt32 31)).toInt32 &&& 1431655765)) >>> (Int32.toUInt32 2 &&& Int32.toUInt32 31)).toInt32 &&& 858993459)) + (Int32.toUInt32 (((x0 - ((Int32.toUInt32 x0 >>> (Int32.toUInt32 1 &&& Int32.toUInt32 31)).toInt32 &&& 1431655765)) &&& 858993459) + ((Int32.toUInt32 (x0 - ((Int32.toUInt32 x0 >>> (Int32.toUInt32 1 &&& Int32.toUInt32 31)).toInt32 &&& 1431655765)) >>> (Int32.toUInt32 2 &&& Int32.toUInt32 31)).toInt32 &&& 858993459)) >>> (Int32.toUInt32 4 &&& Int32.toUInt32 31)).toInt32) &&& 252645135) >>> (Int32.toUInt32 8 &&& Int32.toUInt32 31)).toInt32) >>> (Int32.toUInt32 16 &&& Int32.toUInt32 31)).toInt32) &&& 63), v))
def rm_J6_bitCount_0f7a4 : Room := { frames := 0, cells := 0, slots := 0, locals := 0 }
set_option maxHeartbeats 4000000 in
set_option maxRecDepth 100000 in
theorem k_J6_bitCount_0f7a4 {l : Launch} {D : va_G} {cI cJ : ClassId} {ad : Nat → Nat} {A : Nat → Prop} {adK adV : Nat → Nat} (hI : jx_inj 67 ad A) (x0 : Int32) (v : jx_V) (r : Int32) (v' : jx_V) (hF : f_J6_bitCount_0f7a4 x0 v = some (r, v')) : jx_Ci l D vwCl 67 cI cJ ad shX A (ex_X adK adV A) yJ6_bitCount_0f7a4 (Cond.code yJ6_bitCount_0f7a4 cJ6_bitCount_0f7a4 1 (some .int) :: bigT) rm_J6_bitCount_0f7a4 [.int x0] v r v' := by
  unfold f_J6_bitCount_0f7a4 at hF
  refine jx_enteri bigT RJ6 cJ6_bitCount_0f7a4 1 (some .int) [(0, .int x0)] hI (ex_X_ok adK adV A) (by decide +kernel) rfl (Nat.le_of_ble_eq_true rfl) rfl rfl ?_
  intro p e s m args below meth c E
  refine jx_iload_n E dJ6_bitCount_0f7a4_0 0 rfl ?_
  refine jx_iload_n E dJ6_bitCount_0f7a4_1 0 rfl ?_
  refine jx_iconst (x := 1) E dJ6_bitCount_0f7a4_2 (by decide) ?_
  refine jx_iushr E dJ6_bitCount_0f7a4_3 ?_
  refine jx_ldcw (x := 1431655765) E dJ6_bitCount_0f7a4_4 (List.mem_cons_of_mem _ tw_24) ?_
  refine jx_iand E dJ6_bitCount_0f7a4_7 ?_
  refine jx_isub E dJ6_bitCount_0f7a4_8 ?_
  refine jx_istore_n (lv' := [(0, .int (x0 - ((Int32.toUInt32 x0 >>> (Int32.toUInt32 1 &&& Int32.toUInt32 31)).toInt32 &&& 1431655765)))]) E dJ6_bitCount_0f7a4_9 (by decide) rfl ?_
  refine jx_iload_n E dJ6_bitCount_0f7a4_10 0 rfl ?_
  refine jx_ldcw (x := 858993459) E dJ6_bitCount_0f7a4_11 (List.mem_cons_of_mem _ tw_25) ?_
  refine jx_iand E dJ6_bitCount_0f7a4_14 ?_
  refine jx_iload_n E dJ6_bitCount_0f7a4_15 0 rfl ?_
  refine jx_iconst (x := 2) E dJ6_bitCount_0f7a4_16 (by decide) ?_
  refine jx_iushr E dJ6_bitCount_0f7a4_17 ?_
  refine jx_ldcw (x := 858993459) E dJ6_bitCount_0f7a4_18 (List.mem_cons_of_mem _ tw_25) ?_
  refine jx_iand E dJ6_bitCount_0f7a4_21 ?_
  refine jx_iadd E dJ6_bitCount_0f7a4_22 ?_
  refine jx_istore_n (lv' := [(0, .int (((x0 - ((Int32.toUInt32 x0 >>> (Int32.toUInt32 1 &&& Int32.toUInt32 31)).toInt32 &&& 1431655765)) &&& 858993459) + ((Int32.toUInt32 (x0 - ((Int32.toUInt32 x0 >>> (Int32.toUInt32 1 &&& Int32.toUInt32 31)).toInt32 &&& 1431655765)) >>> (Int32.toUInt32 2 &&& Int32.toUInt32 31)).toInt32 &&& 858993459)))]) E dJ6_bitCount_0f7a4_23 (by decide) rfl ?_
  refine jx_iload_n E dJ6_bitCount_0f7a4_24 0 rfl ?_
  refine jx_iload_n E dJ6_bitCount_0f7a4_25 0 rfl ?_
  refine jx_iconst (x := 4) E dJ6_bitCount_0f7a4_26 (by decide) ?_
  refine jx_iushr E dJ6_bitCount_0f7a4_27 ?_
  refine jx_iadd E dJ6_bitCount_0f7a4_28 ?_
  refine jx_ldcw (x := 252645135) E dJ6_bitCount_0f7a4_29 (List.mem_cons_of_mem _ tw_26) ?_
  refine jx_iand E dJ6_bitCount_0f7a4_32 ?_
  refine jx_istore_n (lv' := [(0, .int (((((x0 - ((Int32.toUInt32 x0 >>> (Int32.toUInt32 1 &&& Int32.toUInt32 31)).toInt32 &&& 1431655765)) &&& 858993459) + ((Int32.toUInt32 (x0 - ((Int32.toUInt32 x0 >>> (Int32.toUInt32 1 &&& Int32.toUInt32 31)).toInt32 &&& 1431655765)) >>> (Int32.toUInt32 2 &&& Int32.toUInt32 31)).toInt32 &&& 858993459)) + (Int32.toUInt32 (((x0 - ((Int32.toUInt32 x0 >>> (Int32.toUInt32 1 &&& Int32.toUInt32 31)).toInt32 &&& 1431655765)) &&& 858993459) + ((Int32.toUInt32 (x0 - ((Int32.toUInt32 x0 >>> (Int32.toUInt32 1 &&& Int32.toUInt32 31)).toInt32 &&& 1431655765)) >>> (Int32.toUInt32 2 &&& Int32.toUInt32 31)).toInt32 &&& 858993459)) >>> (Int32.toUInt32 4 &&& Int32.toUInt32 31)).toInt32) &&& 252645135))]) E dJ6_bitCount_0f7a4_33 (by decide) rfl ?_
  refine jx_iload_n E dJ6_bitCount_0f7a4_34 0 rfl ?_
  refine jx_iload_n E dJ6_bitCount_0f7a4_35 0 rfl ?_
  refine jx_bipush (x := 8) E dJ6_bitCount_0f7a4_36 (by decide) ?_
  refine jx_iushr E dJ6_bitCount_0f7a4_38 ?_
  refine jx_iadd E dJ6_bitCount_0f7a4_39 ?_
  refine jx_istore_n (lv' := [(0, .int ((((((x0 - ((Int32.toUInt32 x0 >>> (Int32.toUInt32 1 &&& Int32.toUInt32 31)).toInt32 &&& 1431655765)) &&& 858993459) + ((Int32.toUInt32 (x0 - ((Int32.toUInt32 x0 >>> (Int32.toUInt32 1 &&& Int32.toUInt32 31)).toInt32 &&& 1431655765)) >>> (Int32.toUInt32 2 &&& Int32.toUInt32 31)).toInt32 &&& 858993459)) + (Int32.toUInt32 (((x0 - ((Int32.toUInt32 x0 >>> (Int32.toUInt32 1 &&& Int32.toUInt32 31)).toInt32 &&& 1431655765)) &&& 858993459) + ((Int32.toUInt32 (x0 - ((Int32.toUInt32 x0 >>> (Int32.toUInt32 1 &&& Int32.toUInt32 31)).toInt32 &&& 1431655765)) >>> (Int32.toUInt32 2 &&& Int32.toUInt32 31)).toInt32 &&& 858993459)) >>> (Int32.toUInt32 4 &&& Int32.toUInt32 31)).toInt32) &&& 252645135) + (Int32.toUInt32 (((((x0 - ((Int32.toUInt32 x0 >>> (Int32.toUInt32 1 &&& Int32.toUInt32 31)).toInt32 &&& 1431655765)) &&& 858993459) + ((Int32.toUInt32 (x0 - ((Int32.toUInt32 x0 >>> (Int32.toUInt32 1 &&& Int32.toUInt32 31)).toInt32 &&& 1431655765)) >>> (Int32.toUInt32 2 &&& Int32.toUInt32 31)).toInt32 &&& 858993459)) + (Int32.toUInt32 (((x0 - ((Int32.toUInt32 x0 >>> (Int32.toUInt32 1 &&& Int32.toUInt32 31)).toInt32 &&& 1431655765)) &&& 858993459) + ((Int32.toUInt32 (x0 - ((Int32.toUInt32 x0 >>> (Int32.toUInt32 1 &&& Int32.toUInt32 31)).toInt32 &&& 1431655765)) >>> (Int32.toUInt32 2 &&& Int32.toUInt32 31)).toInt32 &&& 858993459)) >>> (Int32.toUInt32 4 &&& Int32.toUInt32 31)).toInt32) &&& 252645135) >>> (Int32.toUInt32 8 &&& Int32.toUInt32 31)).toInt32))]) E dJ6_bitCount_0f7a4_40 (by decide) rfl ?_
  refine jx_iload_n E dJ6_bitCount_0f7a4_41 0 rfl ?_
  refine jx_iload_n E dJ6_bitCount_0f7a4_42 0 rfl ?_
  refine jx_bipush (x := 16) E dJ6_bitCount_0f7a4_43 (by decide) ?_
  refine jx_iushr E dJ6_bitCount_0f7a4_45 ?_
  refine jx_iadd E dJ6_bitCount_0f7a4_46 ?_
  refine jx_istore_n (lv' := [(0, .int (((((((x0 - ((Int32.toUInt32 x0 >>> (Int32.toUInt32 1 &&& Int32.toUInt32 31)).toInt32 &&& 1431655765)) &&& 858993459) + ((Int32.toUInt32 (x0 - ((Int32.toUInt32 x0 >>> (Int32.toUInt32 1 &&& Int32.toUInt32 31)).toInt32 &&& 1431655765)) >>> (Int32.toUInt32 2 &&& Int32.toUInt32 31)).toInt32 &&& 858993459)) + (Int32.toUInt32 (((x0 - ((Int32.toUInt32 x0 >>> (Int32.toUInt32 1 &&& Int32.toUInt32 31)).toInt32 &&& 1431655765)) &&& 858993459) + ((Int32.toUInt32 (x0 - ((Int32.toUInt32 x0 >>> (Int32.toUInt32 1 &&& Int32.toUInt32 31)).toInt32 &&& 1431655765)) >>> (Int32.toUInt32 2 &&& Int32.toUInt32 31)).toInt32 &&& 858993459)) >>> (Int32.toUInt32 4 &&& Int32.toUInt32 31)).toInt32) &&& 252645135) + (Int32.toUInt32 (((((x0 - ((Int32.toUInt32 x0 >>> (Int32.toUInt32 1 &&& Int32.toUInt32 31)).toInt32 &&& 1431655765)) &&& 858993459) + ((Int32.toUInt32 (x0 - ((Int32.toUInt32 x0 >>> (Int32.toUInt32 1 &&& Int32.toUInt32 31)).toInt32 &&& 1431655765)) >>> (Int32.toUInt32 2 &&& Int32.toUInt32 31)).toInt32 &&& 858993459)) + (Int32.toUInt32 (((x0 - ((Int32.toUInt32 x0 >>> (Int32.toUInt32 1 &&& Int32.toUInt32 31)).toInt32 &&& 1431655765)) &&& 858993459) + ((Int32.toUInt32 (x0 - ((Int32.toUInt32 x0 >>> (Int32.toUInt32 1 &&& Int32.toUInt32 31)).toInt32 &&& 1431655765)) >>> (Int32.toUInt32 2 &&& Int32.toUInt32 31)).toInt32 &&& 858993459)) >>> (Int32.toUInt32 4 &&& Int32.toUInt32 31)).toInt32) &&& 252645135) >>> (Int32.toUInt32 8 &&& Int32.toUInt32 31)).toInt32) + (Int32.toUInt32 ((((((x0 - ((Int32.toUInt32 x0 >>> (Int32.toUInt32 1 &&& Int32.toUInt32 31)).toInt32 &&& 1431655765)) &&& 858993459) + ((Int32.toUInt32 (x0 - ((Int32.toUInt32 x0 >>> (Int32.toUInt32 1 &&& Int32.toUInt32 31)).toInt32 &&& 1431655765)) >>> (Int32.toUInt32 2 &&& Int32.toUInt32 31)).toInt32 &&& 858993459)) + (Int32.toUInt32 (((x0 - ((Int32.toUInt32 x0 >>> (Int32.toUInt32 1 &&& Int32.toUInt32 31)).toInt32 &&& 1431655765)) &&& 858993459) + ((Int32.toUInt32 (x0 - ((Int32.toUInt32 x0 >>> (Int32.toUInt32 1 &&& Int32.toUInt32 31)).toInt32 &&& 1431655765)) >>> (Int32.toUInt32 2 &&& Int32.toUInt32 31)).toInt32 &&& 858993459)) >>> (Int32.toUInt32 4 &&& Int32.toUInt32 31)).toInt32) &&& 252645135) + (Int32.toUInt32 (((((x0 - ((Int32.toUInt32 x0 >>> (Int32.toUInt32 1 &&& Int32.toUInt32 31)).toInt32 &&& 1431655765)) &&& 858993459) + ((Int32.toUInt32 (x0 - ((Int32.toUInt32 x0 >>> (Int32.toUInt32 1 &&& Int32.toUInt32 31)).toInt32 &&& 1431655765)) >>> (Int32.toUInt32 2 &&& Int32.toUInt32 31)).toInt32 &&& 858993459)) + (Int32.toUInt32 (((x0 - ((Int32.toUInt32 x0 >>> (Int32.toUInt32 1 &&& Int32.toUInt32 31)).toInt32 &&& 1431655765)) &&& 858993459) + ((Int32.toUInt32 (x0 - ((Int32.toUInt32 x0 >>> (Int32.toUInt32 1 &&& Int32.toUInt32 31)).toInt32 &&& 1431655765)) >>> (Int32.toUInt32 2 &&& Int32.toUInt32 31)).toInt32 &&& 858993459)) >>> (Int32.toUInt32 4 &&& Int32.toUInt32 31)).toInt32) &&& 252645135) >>> (Int32.toUInt32 8 &&& Int32.toUInt32 31)).toInt32) >>> (Int32.toUInt32 16 &&& Int32.toUInt32 31)).toInt32))]) E dJ6_bitCount_0f7a4_47 (by decide) rfl ?_
  refine jx_iload_n E dJ6_bitCount_0f7a4_48 0 rfl ?_
  refine jx_bipush (x := 63) E dJ6_bitCount_0f7a4_49 (by decide) ?_
  refine jx_iand E dJ6_bitCount_0f7a4_51 ?_
  obtain ⟨rfl, rfl⟩ := jx_out hF
  exact jx_iret E dJ6_bitCount_0f7a4_52 rfl
def f_J9_floorDiv_7cf53 (x0 : Int32) (x1 : Int32) (v : jx_V) : Option (Int32 × jx_V) := (if x1 = 0 then none else (if 0 ≤ (x0 ^^^ x1) then (some ((x0 / x1), v)) else (if ((x0 / x1) * x1) = x0 then (some ((x0 / x1), v)) else (some (((x0 / x1) - 1), v)))))
def rm_J9_floorDiv_7cf53 : Room := { frames := 0, cells := 0, slots := 0, locals := 0 }
set_option maxHeartbeats 4000000 in
set_option maxRecDepth 100000 in
theorem k_J9_floorDiv_7cf53 {l : Launch} {D : va_G} {cI cJ : ClassId} {ad : Nat → Nat} {A : Nat → Prop} {adK adV : Nat → Nat} (hI : jx_inj 67 ad A) (x0 : Int32) (x1 : Int32) (v : jx_V) (r : Int32) (v' : jx_V) (hF : f_J9_floorDiv_7cf53 x0 x1 v = some (r, v')) : jx_Ci l D vwCl 67 cI cJ ad shX A (ex_X adK adV A) yJ9_floorDiv_7cf53 (Cond.code yJ9_floorDiv_7cf53 cJ9_floorDiv_7cf53 3 (some .int) :: bigT) rm_J9_floorDiv_7cf53 [.int x0, .int x1] v r v' := by
  unfold f_J9_floorDiv_7cf53 at hF
  refine jx_enteriF bigT RJ9 cJ9_floorDiv_7cf53 3 (some .int) [(0, .int x0), (1, .int x1)] hI (ex_X_ok adK adV A) (by decide +kernel) rfl (Nat.le_of_ble_eq_true rfl) rfl rfl ?_
  intro p e s m args below meth c E
  refine jx_iload_n E dJ9_floorDiv_7cf53_0 0 rfl ?_
  refine jx_iload_n E dJ9_floorDiv_7cf53_1 1 rfl ?_
  obtain ⟨hg1, hF⟩ := jx_guard hF
  refine jx_idiv E dJ9_floorDiv_7cf53_2 hg1 ?_
  refine jx_istore_n (lv' := [(2, .int (x0 / x1)), (0, .int x0), (1, .int x1)]) E dJ9_floorDiv_7cf53_3 (by decide) rfl ?_
  refine jx_iload_n E dJ9_floorDiv_7cf53_4 1 rfl ?_
  refine jx_iload_n E dJ9_floorDiv_7cf53_5 2 rfl ?_
  refine jx_ixor E dJ9_floorDiv_7cf53_6 ?_
  refine jx_if_ge (tgt := 21) E dJ9_floorDiv_7cf53_7 (by decide) (fun hc2 => ?_) (fun hc2 => ?_)
  · rw [if_pos hc2] at hF
    refine jx_iload_n E dJ9_floorDiv_7cf53_21 0 rfl ?_
    obtain ⟨rfl, rfl⟩ := jx_out hF
    exact jx_iret E dJ9_floorDiv_7cf53_22 rfl
  · rw [if_neg hc2] at hF
    refine jx_iload_n E dJ9_floorDiv_7cf53_10 0 rfl ?_
    refine jx_iload_n E dJ9_floorDiv_7cf53_11 2 rfl ?_
    refine jx_imul E dJ9_floorDiv_7cf53_12 ?_
    refine jx_iload_n E dJ9_floorDiv_7cf53_13 1 rfl ?_
    refine jx_icmp_eq (tgt := 21) E dJ9_floorDiv_7cf53_14 (by decide) (fun hc3 => ?_) (fun hc3 => ?_)
    · rw [if_pos hc3] at hF
      refine jx_iload_n E dJ9_floorDiv_7cf53_21 0 rfl ?_
      obtain ⟨rfl, rfl⟩ := jx_out hF
      exact jx_iret E dJ9_floorDiv_7cf53_22 rfl
    · rw [if_neg hc3] at hF
      refine jx_iload_n E dJ9_floorDiv_7cf53_17 0 rfl ?_
      refine jx_iconst (x := 1) E dJ9_floorDiv_7cf53_18 (by decide) ?_
      refine jx_isub E dJ9_floorDiv_7cf53_19 ?_
      obtain ⟨rfl, rfl⟩ := jx_out hF
      exact jx_iret E dJ9_floorDiv_7cf53_20 rfl
def f_J9_max_7cf53 (x0 : Int32) (x1 : Int32) (v : jx_V) : Option (Int32 × jx_V) := (if x0 < x1 then (some (x1, v)) else (some (x0, v)))
def rm_J9_max_7cf53 : Room := { frames := 0, cells := 0, slots := 0, locals := 0 }
set_option maxHeartbeats 4000000 in
set_option maxRecDepth 100000 in
theorem k_J9_max_7cf53 {l : Launch} {D : va_G} {cI cJ : ClassId} {ad : Nat → Nat} {A : Nat → Prop} {adK adV : Nat → Nat} (hI : jx_inj 67 ad A) (x0 : Int32) (x1 : Int32) (v : jx_V) (r : Int32) (v' : jx_V) (hF : f_J9_max_7cf53 x0 x1 v = some (r, v')) : jx_Ci l D vwCl 67 cI cJ ad shX A (ex_X adK adV A) yJ9_max_7cf53 (Cond.code yJ9_max_7cf53 cJ9_max_7cf53 2 (some .int) :: bigT) rm_J9_max_7cf53 [.int x0, .int x1] v r v' := by
  unfold f_J9_max_7cf53 at hF
  refine jx_enteriF bigT RJ9 cJ9_max_7cf53 2 (some .int) [(0, .int x0), (1, .int x1)] hI (ex_X_ok adK adV A) (by decide +kernel) rfl (Nat.le_of_ble_eq_true rfl) rfl rfl ?_
  intro p e s m args below meth c E
  refine jx_iload_n E dJ9_max_7cf53_0 0 rfl ?_
  refine jx_iload_n E dJ9_max_7cf53_1 1 rfl ?_
  refine jx_icmp_lt (tgt := 9) E dJ9_max_7cf53_2 (by decide) (fun hc1 => ?_) (fun hc1 => ?_)
  · rw [if_pos hc1] at hF
    refine jx_iload_n E dJ9_max_7cf53_9 1 rfl ?_
    obtain ⟨rfl, rfl⟩ := jx_out hF
    exact jx_iret E dJ9_max_7cf53_10 rfl
  · rw [if_neg hc1] at hF
    refine jx_iload_n E dJ9_max_7cf53_5 0 rfl ?_
    refine jx_goto (tgt := 10) E dJ9_max_7cf53_6 (by decide) ?_
    obtain ⟨rfl, rfl⟩ := jx_out hF
    exact jx_iret E dJ9_max_7cf53_10 rfl
def f_J9_min_7cf53 (x0 : Int32) (x1 : Int32) (v : jx_V) : Option (Int32 × jx_V) := (if x1 < x0 then (some (x1, v)) else (some (x0, v)))
def rm_J9_min_7cf53 : Room := { frames := 0, cells := 0, slots := 0, locals := 0 }
set_option maxHeartbeats 4000000 in
set_option maxRecDepth 100000 in
theorem k_J9_min_7cf53 {l : Launch} {D : va_G} {cI cJ : ClassId} {ad : Nat → Nat} {A : Nat → Prop} {adK adV : Nat → Nat} (hI : jx_inj 67 ad A) (x0 : Int32) (x1 : Int32) (v : jx_V) (r : Int32) (v' : jx_V) (hF : f_J9_min_7cf53 x0 x1 v = some (r, v')) : jx_Ci l D vwCl 67 cI cJ ad shX A (ex_X adK adV A) yJ9_min_7cf53 (Cond.code yJ9_min_7cf53 cJ9_min_7cf53 2 (some .int) :: bigT) rm_J9_min_7cf53 [.int x0, .int x1] v r v' := by
  unfold f_J9_min_7cf53 at hF
  refine jx_enteriF bigT RJ9 cJ9_min_7cf53 2 (some .int) [(0, .int x0), (1, .int x1)] hI (ex_X_ok adK adV A) (by decide +kernel) rfl (Nat.le_of_ble_eq_true rfl) rfl rfl ?_
  intro p e s m args below meth c E
  refine jx_iload_n E dJ9_min_7cf53_0 0 rfl ?_
  refine jx_iload_n E dJ9_min_7cf53_1 1 rfl ?_
  refine jx_icmp_gt (tgt := 9) E dJ9_min_7cf53_2 (by decide) (fun hc1 => ?_) (fun hc1 => ?_)
  · rw [if_pos hc1] at hF
    refine jx_iload_n E dJ9_min_7cf53_9 1 rfl ?_
    obtain ⟨rfl, rfl⟩ := jx_out hF
    exact jx_iret E dJ9_min_7cf53_10 rfl
  · rw [if_neg hc1] at hF
    refine jx_iload_n E dJ9_min_7cf53_5 0 rfl ?_
    refine jx_goto (tgt := 10) E dJ9_min_7cf53_6 (by decide) ?_
    obtain ⟨rfl, rfl⟩ := jx_out hF
    exact jx_iret E dJ9_min_7cf53_10 rfl
def f_X0_nextLot (x0 : Int32) (x1 : Int32) (v : jx_V) : Option (Int32 × jx_V) := (if 0 ≤ x0 then (if x1 = 0 then (if x0 < 5 then (some ((-1), v)) else (some ((x0 - 5), v))) else (if x1 = 1 then (if 4 ≤ (x0 - x0 / 5 * 5) then (some ((-1), v)) else (some ((x0 + 1), v))) else (if x1 = 2 then (if 20 ≤ x0 then (some ((-1), v)) else (some ((x0 + 5), v))) else (if (x0 - x0 / 5 * 5) ≤ 0 then (some ((-1), v)) else (some ((x0 - 1), v)))))) else (some ((-1), v)))
def rm_X0_nextLot : Room := { frames := 0, cells := 0, slots := 0, locals := 0 }
set_option maxHeartbeats 4000000 in
set_option maxRecDepth 100000 in
theorem k_X0_nextLot {l : Launch} {D : va_G} {cI cJ : ClassId} {ad : Nat → Nat} {A : Nat → Prop} {adK adV : Nat → Nat} (hI : jx_inj 67 ad A) (x0 : Int32) (x1 : Int32) (v : jx_V) (r : Int32) (v' : jx_V) (hF : f_X0_nextLot x0 x1 v = some (r, v')) : jx_Ci l D vwCl 67 cI cJ ad shX A (ex_X adK adV A) yX0_nextLot (Cond.code yX0_nextLot cX0_nextLot 2 (some .int) :: bigT) rm_X0_nextLot [.int x0, .int x1] v r v' := by
  unfold f_X0_nextLot at hF
  refine jx_enteri bigT RX0 cX0_nextLot 2 (some .int) [(0, .int x0), (1, .int x1)] hI (ex_X_ok adK adV A) (by decide +kernel) rfl (Nat.le_of_ble_eq_true rfl) rfl rfl ?_
  intro p e s m args below meth c E
  refine jx_iload_n E dX0_nextLot_0 0 rfl ?_
  refine jx_if_ge (tgt := 6) E dX0_nextLot_1 (by decide) (fun hc1 => ?_) (fun hc1 => ?_)
  · rw [if_pos hc1] at hF
    refine jx_iload_n E dX0_nextLot_6 1 rfl ?_
    by_cases hc2 : x1 = 0
    · rw [if_pos hc2] at hF
      refine jx_tableIn (tgt := 32) (z := 0) E dX0_nextLot_7 hc2 (by decide) (by decide) rfl (by decide) ?_
      refine jx_iload_n E dX0_nextLot_32 0 rfl ?_
      refine jx_iconst (x := 5) E dX0_nextLot_33 (by decide) ?_
      refine jx_icmp_lt (tgt := 43) E dX0_nextLot_34 (by decide) (fun hc3 => ?_) (fun hc3 => ?_)
      · rw [if_pos hc3] at hF
        refine jx_iconst (x := -1) E dX0_nextLot_43 (by decide) ?_
        obtain ⟨rfl, rfl⟩ := jx_out hF
        exact jx_iret E dX0_nextLot_44 rfl
      · rw [if_neg hc3] at hF
        refine jx_iload_n E dX0_nextLot_37 0 rfl ?_
        refine jx_iconst (x := 5) E dX0_nextLot_38 (by decide) ?_
        refine jx_isub E dX0_nextLot_39 ?_
        refine jx_goto (tgt := 44) E dX0_nextLot_40 (by decide) ?_
        obtain ⟨rfl, rfl⟩ := jx_out hF
        exact jx_iret E dX0_nextLot_44 rfl
    rw [if_neg hc2] at hF
    by_cases hc4 : x1 = 1
    · rw [if_pos hc4] at hF
      refine jx_tableIn (tgt := 45) (z := 1) E dX0_nextLot_7 hc4 (by decide) (by decide) rfl (by decide) ?_
      refine jx_iload_n E dX0_nextLot_45 0 rfl ?_
      refine jx_iconst (x := 5) E dX0_nextLot_46 (by decide) ?_
      refine jx_irem E dX0_nextLot_47 (by decide) ?_
      refine jx_iconst (x := 4) E dX0_nextLot_48 (by decide) ?_
      refine jx_icmp_ge (tgt := 58) E dX0_nextLot_49 (by decide) (fun hc5 => ?_) (fun hc5 => ?_)
      · rw [if_pos hc5] at hF
        refine jx_iconst (x := -1) E dX0_nextLot_58 (by decide) ?_
        obtain ⟨rfl, rfl⟩ := jx_out hF
        exact jx_iret E dX0_nextLot_59 rfl
      · rw [if_neg hc5] at hF
        refine jx_iload_n E dX0_nextLot_52 0 rfl ?_
        refine jx_iconst (x := 1) E dX0_nextLot_53 (by decide) ?_
        refine jx_iadd E dX0_nextLot_54 ?_
        refine jx_goto (tgt := 59) E dX0_nextLot_55 (by decide) ?_
        obtain ⟨rfl, rfl⟩ := jx_out hF
        exact jx_iret E dX0_nextLot_59 rfl
    rw [if_neg hc4] at hF
    by_cases hc6 : x1 = 2
    · rw [if_pos hc6] at hF
      refine jx_tableIn (tgt := 60) (z := 2) E dX0_nextLot_7 hc6 (by decide) (by decide) rfl (by decide) ?_
      refine jx_iload_n E dX0_nextLot_60 0 rfl ?_
      refine jx_bipush (x := 20) E dX0_nextLot_61 (by decide) ?_
      refine jx_icmp_ge (tgt := 72) E dX0_nextLot_63 (by decide) (fun hc7 => ?_) (fun hc7 => ?_)
      · rw [if_pos hc7] at hF
        refine jx_iconst (x := -1) E dX0_nextLot_72 (by decide) ?_
        obtain ⟨rfl, rfl⟩ := jx_out hF
        exact jx_iret E dX0_nextLot_73 rfl
      · rw [if_neg hc7] at hF
        refine jx_iload_n E dX0_nextLot_66 0 rfl ?_
        refine jx_iconst (x := 5) E dX0_nextLot_67 (by decide) ?_
        refine jx_iadd E dX0_nextLot_68 ?_
        refine jx_goto (tgt := 73) E dX0_nextLot_69 (by decide) ?_
        obtain ⟨rfl, rfl⟩ := jx_out hF
        exact jx_iret E dX0_nextLot_73 rfl
    rw [if_neg hc6] at hF
    refine jx_tableOut (tgt := 74) E dX0_nextLot_7 (by have hz2 := jx_ne hc2 (k := 0) (by decide); have hz4 := jx_ne hc4 (k := 1) (by decide); have hz6 := jx_ne hc6 (k := 2) (by decide); omega) (by decide) ?_
    refine jx_iload_n E dX0_nextLot_74 0 rfl ?_
    refine jx_iconst (x := 5) E dX0_nextLot_75 (by decide) ?_
    refine jx_irem E dX0_nextLot_76 (by decide) ?_
    refine jx_if_le (tgt := 86) E dX0_nextLot_77 (by decide) (fun hc8 => ?_) (fun hc8 => ?_)
    · rw [if_pos hc8] at hF
      refine jx_iconst (x := -1) E dX0_nextLot_86 (by decide) ?_
      obtain ⟨rfl, rfl⟩ := jx_out hF
      exact jx_iret E dX0_nextLot_87 rfl
    · rw [if_neg hc8] at hF
      refine jx_iload_n E dX0_nextLot_80 0 rfl ?_
      refine jx_iconst (x := 1) E dX0_nextLot_81 (by decide) ?_
      refine jx_isub E dX0_nextLot_82 ?_
      refine jx_goto (tgt := 87) E dX0_nextLot_83 (by decide) ?_
      obtain ⟨rfl, rfl⟩ := jx_out hF
      exact jx_iret E dX0_nextLot_87 rfl
  · rw [if_neg hc1] at hF
    refine jx_iconst (x := -1) E dX0_nextLot_4 (by decide) ?_
    obtain ⟨rfl, rfl⟩ := jx_out hF
    exact jx_iret E dX0_nextLot_5 rfl
def f_X3_isTaken (h0 : Nat) (x1 : Int32) (v : jx_V) : Option (Int32 × jx_V) := (if (x1 < 0 ∨ 25 ≤ Int32.toNatClampNeg x1) then none else (if (v (h0 + 3) (Int32.toNatClampNeg x1)) < 0 then (some (0, v)) else (some (1, v))))
def rm_X3_isTaken : Room := { frames := 0, cells := 0, slots := 0, locals := 0 }
set_option maxHeartbeats 4000000 in
set_option maxRecDepth 100000 in
theorem k_X3_isTaken {l : Launch} {D : va_G} {cI cJ : ClassId} {ad : Nat → Nat} {A : Nat → Prop} {adK adV : Nat → Nat} (hI : jx_inj 67 ad A) (h0 : Nat) (hT0 : jx_T h0) (x1 : Int32) (v : jx_V) (r : Int32) (v' : jx_V) (hF : f_X3_isTaken h0 x1 v = some (r, v')) : jx_Ci l D vwCl 67 cI cJ ad shX A (ex_X adK adV A) yX3_isTaken (Cond.code yX3_isTaken cX3_isTaken 2 (some .boolean) :: bigT) rm_X3_isTaken [.ref (ad h0), .int x1] v r v' := by
  unfold f_X3_isTaken at hF
  refine jx_enteri bigT RX3 cX3_isTaken 2 (some .boolean) [(0, .ref (ad h0)), (1, .int x1)] hI (ex_X_ok adK adV A) (by decide +kernel) rfl (Nat.le_of_ble_eq_true rfl) rfl rfl ?_
  intro p e s m args below meth c E
  have iX3 : ∀ w ∈ u_ws RX3 TX3 8, w ∈ (Cond.code yX3_isTaken cX3_isTaken 2 (some .boolean) :: bigT) := fun w h => List.mem_cons_of_mem _ (uw_X3 w h)
  refine jx_aload_n E dX3_isTaken_0 0 rfl ?_
  refine jx_getr (C := RX3) (T := TX3) (M := 8) (k := 0) E dX3_isTaken_1 (n_T0 hT0) (s_T0 hT0) rfl iX3 (by decide) rfl (List.mem_cons_of_mem _ tw_27) rfl ?_
  refine jx_iconst (x := 0) E dX3_isTaken_4 (by decide) ?_
  refine jx_aald (h' := (h0 + 3)) E dX3_isTaken_5 (n_T1 hT0) (s_T1 hT0) (show ¬ ((0 : Int32) < 0 ∨ 4 ≤ Int32.toNatClampNeg 0) by decide) rfl ?_
  refine jx_iload_n E dX3_isTaken_6 1 rfl ?_
  obtain ⟨hg1, hF⟩ := jx_guard hF
  refine jx_iald (h := (h0 + 3)) (j := (Int32.toNatClampNeg x1)) E dX3_isTaken_7 (n_T3 hT0) (s_T3 hT0) hg1 rfl ?_
  refine jx_if_lt (tgt := 15) E dX3_isTaken_8 (by decide) (fun hc2 => ?_) (fun hc2 => ?_)
  · rw [if_pos hc2] at hF
    refine jx_iconst (x := 0) E dX3_isTaken_15 (by decide) ?_
    obtain ⟨rfl, rfl⟩ := jx_out hF
    exact jx_zret E dX3_isTaken_16 rfl (Or.inl rfl)
  · rw [if_neg hc2] at hF
    refine jx_iconst (x := 1) E dX3_isTaken_11 (by decide) ?_
    refine jx_goto (tgt := 16) E dX3_isTaken_12 (by decide) ?_
    obtain ⟨rfl, rfl⟩ := jx_out hF
    exact jx_zret E dX3_isTaken_16 rfl (Or.inr rfl)
def f_X3_isSummer (h0 : Nat) (v : jx_V) : Option (Int32 × jx_V) := (if ((v h0 6) - (v h0 6) / 12 * 12) < 3 then (some (0, v)) else (if 8 < ((v h0 6) - (v h0 6) / 12 * 12) then (some (0, v)) else (some (1, v))))
def rm_X3_isSummer : Room := { frames := 0, cells := 0, slots := 0, locals := 0 }
set_option maxHeartbeats 4000000 in
set_option maxRecDepth 100000 in
theorem k_X3_isSummer {l : Launch} {D : va_G} {cI cJ : ClassId} {ad : Nat → Nat} {A : Nat → Prop} {adK adV : Nat → Nat} (hI : jx_inj 67 ad A) (h0 : Nat) (hT0 : jx_T h0) (v : jx_V) (r : Int32) (v' : jx_V) (hF : f_X3_isSummer h0 v = some (r, v')) : jx_Ci l D vwCl 67 cI cJ ad shX A (ex_X adK adV A) yX3_isSummer (Cond.code yX3_isSummer cX3_isSummer 2 (some .boolean) :: bigT) rm_X3_isSummer [.ref (ad h0)] v r v' := by
  unfold f_X3_isSummer at hF
  refine jx_enteri bigT RX3 cX3_isSummer 2 (some .boolean) [(0, .ref (ad h0))] hI (ex_X_ok adK adV A) (by decide +kernel) rfl (Nat.le_of_ble_eq_true rfl) rfl rfl ?_
  intro p e s m args below meth c E
  have iX3 : ∀ w ∈ u_ws RX3 TX3 8, w ∈ (Cond.code yX3_isSummer cX3_isSummer 2 (some .boolean) :: bigT) := fun w h => List.mem_cons_of_mem _ (uw_X3 w h)
  refine jx_aload_n E dX3_isSummer_0 0 rfl ?_
  refine jx_geti (C := RX3) (T := TX3) (M := 8) (k := 6) E dX3_isSummer_1 (n_T0 hT0) (s_T0 hT0) rfl iX3 (by decide) rfl (List.mem_cons_of_mem _ tw_28) rfl ?_
  refine jx_bipush (x := 12) E dX3_isSummer_4 (by decide) ?_
  refine jx_irem E dX3_isSummer_6 (by decide) ?_
  refine jx_istore_n (lv' := [(1, .int ((v h0 6) - (v h0 6) / 12 * 12)), (0, .ref (ad h0))]) E dX3_isSummer_7 (by decide) rfl ?_
  refine jx_iload_n E dX3_isSummer_8 0 rfl ?_
  refine jx_iconst (x := 3) E dX3_isSummer_9 (by decide) ?_
  refine jx_icmp_lt (tgt := 23) E dX3_isSummer_10 (by decide) (fun hc1 => ?_) (fun hc1 => ?_)
  · rw [if_pos hc1] at hF
    refine jx_iconst (x := 0) E dX3_isSummer_23 (by decide) ?_
    obtain ⟨rfl, rfl⟩ := jx_out hF
    exact jx_zret E dX3_isSummer_24 rfl (Or.inl rfl)
  · rw [if_neg hc1] at hF
    refine jx_iload_n E dX3_isSummer_13 0 rfl ?_
    refine jx_bipush (x := 8) E dX3_isSummer_14 (by decide) ?_
    refine jx_icmp_gt (tgt := 23) E dX3_isSummer_16 (by decide) (fun hc2 => ?_) (fun hc2 => ?_)
    · rw [if_pos hc2] at hF
      refine jx_iconst (x := 0) E dX3_isSummer_23 (by decide) ?_
      obtain ⟨rfl, rfl⟩ := jx_out hF
      exact jx_zret E dX3_isSummer_24 rfl (Or.inl rfl)
    · rw [if_neg hc2] at hF
      refine jx_iconst (x := 1) E dX3_isSummer_19 (by decide) ?_
      refine jx_goto (tgt := 24) E dX3_isSummer_20 (by decide) ?_
      obtain ⟨rfl, rfl⟩ := jx_out hF
      exact jx_zret E dX3_isSummer_24 rfl (Or.inr rfl)
def f_X3_standing (h0 : Nat) (x1 : Int32) (v : jx_V) : Option (Int32 × jx_V) := (if (x1 < 0 ∨ 25 ≤ Int32.toNatClampNeg x1) then none else (if (x1 < 0 ∨ 25 ≤ Int32.toNatClampNeg x1) then none else (if (v (h0 + 3) (Int32.toNatClampNeg x1)) = 1 then ((f_X3_isSummer h0 v).bind (fun (r4, v4) => (if r4 = 0 then ((f_J9_min_7cf53 9 ((v (h0 + 5) (Int32.toNatClampNeg x1)) + 0) v4).bind (fun (r6, v6) => (some (r6, v6)))) else ((f_J9_min_7cf53 9 ((v (h0 + 5) (Int32.toNatClampNeg x1)) + 2) v4).bind (fun (r7, v7) => (some (r7, v7))))))) else (if (v (h0 + 3) (Int32.toNatClampNeg x1)) = 2 then ((f_J9_min_7cf53 9 (v (h0 + 5) (Int32.toNatClampNeg x1)) v).bind (fun (r9, v9) => (some (r9, v9)))) else (if (v (h0 + 3) (Int32.toNatClampNeg x1)) = 3 then ((f_X3_isSummer h0 v).bind (fun (r11, v11) => (if r11 = 0 then ((f_J9_min_7cf53 9 ((v (h0 + 5) (Int32.toNatClampNeg x1)) + 0) v11).bind (fun (r13, v13) => (some (r13, v13)))) else ((f_J9_min_7cf53 9 ((v (h0 + 5) (Int32.toNatClampNeg x1)) + 2) v11).bind (fun (r14, v14) => (some (r14, v14))))))) else (if (v (h0 + 3) (Int32.toNatClampNeg x1)) = 4 then (if ((v h0 6) - (v h0 6) / 2 * 2) = 1 then ((f_J9_min_7cf53 9 0 v).bind (fun (r18, v18) => (some (r18, v18)))) else ((f_J9_min_7cf53 9 (v (h0 + 5) (Int32.toNatClampNeg x1)) v).bind (fun (r17, v17) => (some (r17, v17))))) else (if (v (h0 + 3) (Int32.toNatClampNeg x1)) = 5 then ((f_J9_min_7cf53 9 (v (h0 + 5) (Int32.toNatClampNeg x1)) v).bind (fun (r20, v20) => (some (r20, v20)))) else (if (v (h0 + 3) (Int32.toNatClampNeg x1)) = 6 then ((f_J9_min_7cf53 9 ((v (h0 + 5) (Int32.toNatClampNeg x1)) + 3) v).bind (fun (r22, v22) => (some (r22, v22)))) else ((f_J9_min_7cf53 9 (v (h0 + 5) (Int32.toNatClampNeg x1)) v).bind (fun (r23, v23) => (some (r23, v23))))))))))))
def rm_X3_standing : Room := { frames := 1, cells := 0, slots := 0, locals := 21 }
set_option maxHeartbeats 4000000 in
set_option maxRecDepth 100000 in
theorem k_X3_standing {l : Launch} {D : va_G} {cI cJ : ClassId} {ad : Nat → Nat} {A : Nat → Prop} {adK adV : Nat → Nat} (hI : jx_inj 67 ad A) (h0 : Nat) (hT0 : jx_T h0) (x1 : Int32) (v : jx_V) (r : Int32) (v' : jx_V) (hF : f_X3_standing h0 x1 v = some (r, v')) : jx_Ci l D vwCl 67 cI cJ ad shX A (ex_X adK adV A) yX3_standing (Cond.code yX3_standing cX3_standing 3 (some .int) :: bigT) rm_X3_standing [.ref (ad h0), .int x1] v r v' := by
  unfold f_X3_standing at hF
  refine jx_enteri bigT RX3 cX3_standing 3 (some .int) [(0, .ref (ad h0)), (1, .int x1)] hI (ex_X_ok adK adV A) (by decide +kernel) rfl (Nat.le_of_ble_eq_true rfl) rfl rfl ?_
  intro p e s m args below meth c E
  have iX3 : ∀ w ∈ u_ws RX3 TX3 8, w ∈ (Cond.code yX3_standing cX3_standing 3 (some .int) :: bigT) := fun w h => List.mem_cons_of_mem _ (uw_X3 w h)
  refine jx_aload_n E dX3_standing_0 0 rfl ?_
  refine jx_getr (C := RX3) (T := TX3) (M := 8) (k := 0) E dX3_standing_1 (n_T0 hT0) (s_T0 hT0) rfl iX3 (by decide) rfl (List.mem_cons_of_mem _ tw_27) rfl ?_
  refine jx_iconst (x := 2) E dX3_standing_4 (by decide) ?_
  refine jx_aald (h' := (h0 + 5)) E dX3_standing_5 (n_T1 hT0) (s_T1 hT0) (show ¬ ((2 : Int32) < 0 ∨ 4 ≤ Int32.toNatClampNeg 2) by decide) rfl ?_
  refine jx_iload_n E dX3_standing_6 1 rfl ?_
  obtain ⟨hg1, hF⟩ := jx_guard hF
  refine jx_iald (h := (h0 + 5)) (j := (Int32.toNatClampNeg x1)) E dX3_standing_7 (n_T5 hT0) (s_T5 hT0) hg1 rfl ?_
  refine jx_istore_n (lv' := [(2, .int (v (h0 + 5) (Int32.toNatClampNeg x1))), (0, .ref (ad h0)), (1, .int x1)]) E dX3_standing_8 (by decide) rfl ?_
  refine jx_aload_n E dX3_standing_9 1 rfl ?_
  refine jx_getr (C := RX3) (T := TX3) (M := 8) (k := 0) E dX3_standing_10 (n_T0 hT0) (s_T0 hT0) rfl iX3 (by decide) rfl (List.mem_cons_of_mem _ tw_27) rfl ?_
  refine jx_iconst (x := 0) E dX3_standing_13 (by decide) ?_
  refine jx_aald (h' := (h0 + 3)) E dX3_standing_14 (n_T1 hT0) (s_T1 hT0) (show ¬ ((0 : Int32) < 0 ∨ 4 ≤ Int32.toNatClampNeg 0) by decide) rfl ?_
  refine jx_iload_n E dX3_standing_15 2 rfl ?_
  obtain ⟨hg2, hF⟩ := jx_guard hF
  refine jx_iald (h := (h0 + 3)) (j := (Int32.toNatClampNeg x1)) E dX3_standing_16 (n_T3 hT0) (s_T3 hT0) hg2 rfl ?_
  by_cases hc3 : (v (h0 + 3) (Int32.toNatClampNeg x1)) = 1
  · rw [if_pos hc3] at hF
    refine jx_tableIn (tgt := 56) (z := 1) E dX3_standing_17 hc3 (by decide) (by decide) rfl (by decide) ?_
    refine jx_iload_n E dX3_standing_56 0 rfl ?_
    refine jx_aload_n E dX3_standing_57 1 rfl ?_
    obtain ⟨⟨r4, v4⟩, hc4, hF⟩ := jx_bind hF
    try dsimp only at hF
    refine jx_callVi (As := []) (st := [.int (v (h0 + 5) (Int32.toNatClampNeg x1))]) (h := h0) E dX3_standing_58 0 rfl (k_X3_isSummer hI h0 hT0 v r4 v4 hc4) (gb_V (List.mem_cons_of_mem _ tw_30) (List.mem_cons_of_mem _ tw_31) (List.mem_cons_of_mem _ tw_32) (List.mem_cons_of_mem _ tw_33) tw_29) rfl rfl rfl dd_X3_isSummer rfl (n_T0 hT0) (s_T0 hT0) rfl ⟨by decide, by decide⟩ ⟨Nat.le_refl 0, Nat.le_refl 0⟩ (Nat.le_of_ble_eq_true rfl) ?_
    refine jx_if_eq (tgt := 68) E dX3_standing_61 (by decide) (fun hc5 => ?_) (fun hc5 => ?_)
    · rw [if_pos hc5] at hF
      refine jx_iconst (x := 0) E dX3_standing_68 (by decide) ?_
      refine jx_iadd E dX3_standing_69 ?_
      refine jx_istore_n (lv' := [(2, .int ((v (h0 + 5) (Int32.toNatClampNeg x1)) + 0)), (0, .ref (ad h0)), (1, .int x1)]) E dX3_standing_70 (by decide) rfl ?_
      refine jx_goto (tgt := 99) E dX3_standing_71 (by decide) ?_
      refine jx_bipush (x := 9) E dX3_standing_99 (by decide) ?_
      refine jx_iload_n E dX3_standing_101 0 rfl ?_
      obtain ⟨⟨r6, v6⟩, hc6, hF⟩ := jx_bind hF
      try dsimp only at hF
      refine jx_callTi (As := [.int 9, .int ((v (h0 + 5) (Int32.toNatClampNeg x1)) + 0)]) (st := []) E dX3_standing_102 2 rfl (k_J9_min_7cf53 hI 9 ((v (h0 + 5) (Int32.toNatClampNeg x1)) + 0) v4 r6 v6 hc6) (gb_N tw_34) rfl rfl rfl (List.mem_cons_of_mem _ tw_35) (List.mem_cons_of_mem _ tw_36) (List.mem_cons_of_mem _ tw_37) dd_J9_min_7cf53.2 rfl ⟨by decide, by decide⟩ ⟨Nat.le_refl 0, Nat.le_refl 0⟩ (Nat.le_of_ble_eq_true rfl) ?_
      obtain ⟨rfl, rfl⟩ := jx_out hF
      exact jx_iret E dX3_standing_105 rfl
    · rw [if_neg hc5] at hF
      refine jx_iconst (x := 2) E dX3_standing_64 (by decide) ?_
      refine jx_goto (tgt := 69) E dX3_standing_65 (by decide) ?_
      refine jx_iadd E dX3_standing_69 ?_
      refine jx_istore_n (lv' := [(2, .int ((v (h0 + 5) (Int32.toNatClampNeg x1)) + 2)), (0, .ref (ad h0)), (1, .int x1)]) E dX3_standing_70 (by decide) rfl ?_
      refine jx_goto (tgt := 99) E dX3_standing_71 (by decide) ?_
      refine jx_bipush (x := 9) E dX3_standing_99 (by decide) ?_
      refine jx_iload_n E dX3_standing_101 0 rfl ?_
      obtain ⟨⟨r7, v7⟩, hc7, hF⟩ := jx_bind hF
      try dsimp only at hF
      refine jx_callTi (As := [.int 9, .int ((v (h0 + 5) (Int32.toNatClampNeg x1)) + 2)]) (st := []) E dX3_standing_102 2 rfl (k_J9_min_7cf53 hI 9 ((v (h0 + 5) (Int32.toNatClampNeg x1)) + 2) v4 r7 v7 hc7) (gb_N tw_34) rfl rfl rfl (List.mem_cons_of_mem _ tw_35) (List.mem_cons_of_mem _ tw_36) (List.mem_cons_of_mem _ tw_37) dd_J9_min_7cf53.2 rfl ⟨by decide, by decide⟩ ⟨Nat.le_refl 0, Nat.le_refl 0⟩ (Nat.le_of_ble_eq_true rfl) ?_
      obtain ⟨rfl, rfl⟩ := jx_out hF
      exact jx_iret E dX3_standing_105 rfl
  rw [if_neg hc3] at hF
  by_cases hc8 : (v (h0 + 3) (Int32.toNatClampNeg x1)) = 2
  · rw [if_pos hc8] at hF
    refine jx_tableIn (tgt := 99) (z := 2) E dX3_standing_17 hc8 (by decide) (by decide) rfl (by decide) ?_
    refine jx_bipush (x := 9) E dX3_standing_99 (by decide) ?_
    refine jx_iload_n E dX3_standing_101 0 rfl ?_
    obtain ⟨⟨r9, v9⟩, hc9, hF⟩ := jx_bind hF
    try dsimp only at hF
    refine jx_callTi (As := [.int 9, .int (v (h0 + 5) (Int32.toNatClampNeg x1))]) (st := []) E dX3_standing_102 2 rfl (k_J9_min_7cf53 hI 9 (v (h0 + 5) (Int32.toNatClampNeg x1)) v r9 v9 hc9) (gb_N tw_34) rfl rfl rfl (List.mem_cons_of_mem _ tw_35) (List.mem_cons_of_mem _ tw_36) (List.mem_cons_of_mem _ tw_37) dd_J9_min_7cf53.2 rfl ⟨by decide, by decide⟩ ⟨Nat.le_refl 0, Nat.le_refl 0⟩ (Nat.le_of_ble_eq_true rfl) ?_
    obtain ⟨rfl, rfl⟩ := jx_out hF
    exact jx_iret E dX3_standing_105 rfl
  rw [if_neg hc8] at hF
  by_cases hc10 : (v (h0 + 3) (Int32.toNatClampNeg x1)) = 3
  · rw [if_pos hc10] at hF
    refine jx_tableIn (tgt := 56) (z := 3) E dX3_standing_17 hc10 (by decide) (by decide) rfl (by decide) ?_
    refine jx_iload_n E dX3_standing_56 0 rfl ?_
    refine jx_aload_n E dX3_standing_57 1 rfl ?_
    obtain ⟨⟨r11, v11⟩, hc11, hF⟩ := jx_bind hF
    try dsimp only at hF
    refine jx_callVi (As := []) (st := [.int (v (h0 + 5) (Int32.toNatClampNeg x1))]) (h := h0) E dX3_standing_58 0 rfl (k_X3_isSummer hI h0 hT0 v r11 v11 hc11) (gb_V (List.mem_cons_of_mem _ tw_30) (List.mem_cons_of_mem _ tw_31) (List.mem_cons_of_mem _ tw_32) (List.mem_cons_of_mem _ tw_33) tw_29) rfl rfl rfl dd_X3_isSummer rfl (n_T0 hT0) (s_T0 hT0) rfl ⟨by decide, by decide⟩ ⟨Nat.le_refl 0, Nat.le_refl 0⟩ (Nat.le_of_ble_eq_true rfl) ?_
    refine jx_if_eq (tgt := 68) E dX3_standing_61 (by decide) (fun hc12 => ?_) (fun hc12 => ?_)
    · rw [if_pos hc12] at hF
      refine jx_iconst (x := 0) E dX3_standing_68 (by decide) ?_
      refine jx_iadd E dX3_standing_69 ?_
      refine jx_istore_n (lv' := [(2, .int ((v (h0 + 5) (Int32.toNatClampNeg x1)) + 0)), (0, .ref (ad h0)), (1, .int x1)]) E dX3_standing_70 (by decide) rfl ?_
      refine jx_goto (tgt := 99) E dX3_standing_71 (by decide) ?_
      refine jx_bipush (x := 9) E dX3_standing_99 (by decide) ?_
      refine jx_iload_n E dX3_standing_101 0 rfl ?_
      obtain ⟨⟨r13, v13⟩, hc13, hF⟩ := jx_bind hF
      try dsimp only at hF
      refine jx_callTi (As := [.int 9, .int ((v (h0 + 5) (Int32.toNatClampNeg x1)) + 0)]) (st := []) E dX3_standing_102 2 rfl (k_J9_min_7cf53 hI 9 ((v (h0 + 5) (Int32.toNatClampNeg x1)) + 0) v11 r13 v13 hc13) (gb_N tw_34) rfl rfl rfl (List.mem_cons_of_mem _ tw_35) (List.mem_cons_of_mem _ tw_36) (List.mem_cons_of_mem _ tw_37) dd_J9_min_7cf53.2 rfl ⟨by decide, by decide⟩ ⟨Nat.le_refl 0, Nat.le_refl 0⟩ (Nat.le_of_ble_eq_true rfl) ?_
      obtain ⟨rfl, rfl⟩ := jx_out hF
      exact jx_iret E dX3_standing_105 rfl
    · rw [if_neg hc12] at hF
      refine jx_iconst (x := 2) E dX3_standing_64 (by decide) ?_
      refine jx_goto (tgt := 69) E dX3_standing_65 (by decide) ?_
      refine jx_iadd E dX3_standing_69 ?_
      refine jx_istore_n (lv' := [(2, .int ((v (h0 + 5) (Int32.toNatClampNeg x1)) + 2)), (0, .ref (ad h0)), (1, .int x1)]) E dX3_standing_70 (by decide) rfl ?_
      refine jx_goto (tgt := 99) E dX3_standing_71 (by decide) ?_
      refine jx_bipush (x := 9) E dX3_standing_99 (by decide) ?_
      refine jx_iload_n E dX3_standing_101 0 rfl ?_
      obtain ⟨⟨r14, v14⟩, hc14, hF⟩ := jx_bind hF
      try dsimp only at hF
      refine jx_callTi (As := [.int 9, .int ((v (h0 + 5) (Int32.toNatClampNeg x1)) + 2)]) (st := []) E dX3_standing_102 2 rfl (k_J9_min_7cf53 hI 9 ((v (h0 + 5) (Int32.toNatClampNeg x1)) + 2) v11 r14 v14 hc14) (gb_N tw_34) rfl rfl rfl (List.mem_cons_of_mem _ tw_35) (List.mem_cons_of_mem _ tw_36) (List.mem_cons_of_mem _ tw_37) dd_J9_min_7cf53.2 rfl ⟨by decide, by decide⟩ ⟨Nat.le_refl 0, Nat.le_refl 0⟩ (Nat.le_of_ble_eq_true rfl) ?_
      obtain ⟨rfl, rfl⟩ := jx_out hF
      exact jx_iret E dX3_standing_105 rfl
  rw [if_neg hc10] at hF
  by_cases hc15 : (v (h0 + 3) (Int32.toNatClampNeg x1)) = 4
  · rw [if_pos hc15] at hF
    refine jx_tableIn (tgt := 74) (z := 4) E dX3_standing_17 hc15 (by decide) (by decide) rfl (by decide) ?_
    refine jx_aload_n E dX3_standing_74 1 rfl ?_
    refine jx_geti (C := RX3) (T := TX3) (M := 8) (k := 6) E dX3_standing_75 (n_T0 hT0) (s_T0 hT0) rfl iX3 (by decide) rfl (List.mem_cons_of_mem _ tw_28) rfl ?_
    refine jx_iconst (x := 2) E dX3_standing_78 (by decide) ?_
    refine jx_irem E dX3_standing_79 (by decide) ?_
    refine jx_iconst (x := 1) E dX3_standing_80 (by decide) ?_
    refine jx_icmp_ne (tgt := 88) E dX3_standing_81 (by decide) (fun hc16 => ?_) (fun hc16 => ?_)
    · rw [if_neg hc16] at hF
      refine jx_iload_n E dX3_standing_88 0 rfl ?_
      refine jx_istore_n (lv' := [(2, .int (v (h0 + 5) (Int32.toNatClampNeg x1))), (0, .ref (ad h0)), (1, .int x1)]) E dX3_standing_89 (by decide) rfl ?_
      refine jx_goto (tgt := 99) E dX3_standing_90 (by decide) ?_
      refine jx_bipush (x := 9) E dX3_standing_99 (by decide) ?_
      refine jx_iload_n E dX3_standing_101 0 rfl ?_
      obtain ⟨⟨r17, v17⟩, hc17, hF⟩ := jx_bind hF
      try dsimp only at hF
      refine jx_callTi (As := [.int 9, .int (v (h0 + 5) (Int32.toNatClampNeg x1))]) (st := []) E dX3_standing_102 2 rfl (k_J9_min_7cf53 hI 9 (v (h0 + 5) (Int32.toNatClampNeg x1)) v r17 v17 hc17) (gb_N tw_34) rfl rfl rfl (List.mem_cons_of_mem _ tw_35) (List.mem_cons_of_mem _ tw_36) (List.mem_cons_of_mem _ tw_37) dd_J9_min_7cf53.2 rfl ⟨by decide, by decide⟩ ⟨Nat.le_refl 0, Nat.le_refl 0⟩ (Nat.le_of_ble_eq_true rfl) ?_
      obtain ⟨rfl, rfl⟩ := jx_out hF
      exact jx_iret E dX3_standing_105 rfl
    · rw [if_pos hc16] at hF
      refine jx_iconst (x := 0) E dX3_standing_84 (by decide) ?_
      refine jx_goto (tgt := 89) E dX3_standing_85 (by decide) ?_
      refine jx_istore_n (lv' := [(2, .int 0), (0, .ref (ad h0)), (1, .int x1)]) E dX3_standing_89 (by decide) rfl ?_
      refine jx_goto (tgt := 99) E dX3_standing_90 (by decide) ?_
      refine jx_bipush (x := 9) E dX3_standing_99 (by decide) ?_
      refine jx_iload_n E dX3_standing_101 0 rfl ?_
      obtain ⟨⟨r18, v18⟩, hc18, hF⟩ := jx_bind hF
      try dsimp only at hF
      refine jx_callTi (As := [.int 9, .int 0]) (st := []) E dX3_standing_102 2 rfl (k_J9_min_7cf53 hI 9 0 v r18 v18 hc18) (gb_N tw_34) rfl rfl rfl (List.mem_cons_of_mem _ tw_35) (List.mem_cons_of_mem _ tw_36) (List.mem_cons_of_mem _ tw_37) dd_J9_min_7cf53.2 rfl ⟨by decide, by decide⟩ ⟨Nat.le_refl 0, Nat.le_refl 0⟩ (Nat.le_of_ble_eq_true rfl) ?_
      obtain ⟨rfl, rfl⟩ := jx_out hF
      exact jx_iret E dX3_standing_105 rfl
  rw [if_neg hc15] at hF
  by_cases hc19 : (v (h0 + 3) (Int32.toNatClampNeg x1)) = 5
  · rw [if_pos hc19] at hF
    refine jx_tableIn (tgt := 99) (z := 5) E dX3_standing_17 hc19 (by decide) (by decide) rfl (by decide) ?_
    refine jx_bipush (x := 9) E dX3_standing_99 (by decide) ?_
    refine jx_iload_n E dX3_standing_101 0 rfl ?_
    obtain ⟨⟨r20, v20⟩, hc20, hF⟩ := jx_bind hF
    try dsimp only at hF
    refine jx_callTi (As := [.int 9, .int (v (h0 + 5) (Int32.toNatClampNeg x1))]) (st := []) E dX3_standing_102 2 rfl (k_J9_min_7cf53 hI 9 (v (h0 + 5) (Int32.toNatClampNeg x1)) v r20 v20 hc20) (gb_N tw_34) rfl rfl rfl (List.mem_cons_of_mem _ tw_35) (List.mem_cons_of_mem _ tw_36) (List.mem_cons_of_mem _ tw_37) dd_J9_min_7cf53.2 rfl ⟨by decide, by decide⟩ ⟨Nat.le_refl 0, Nat.le_refl 0⟩ (Nat.le_of_ble_eq_true rfl) ?_
    obtain ⟨rfl, rfl⟩ := jx_out hF
    exact jx_iret E dX3_standing_105 rfl
  rw [if_neg hc19] at hF
  by_cases hc21 : (v (h0 + 3) (Int32.toNatClampNeg x1)) = 6
  · rw [if_pos hc21] at hF
    refine jx_tableIn (tgt := 93) (z := 6) E dX3_standing_17 hc21 (by decide) (by decide) rfl (by decide) ?_
    refine jx_iinc (y := ((v (h0 + 5) (Int32.toNatClampNeg x1)) + 3)) (lv' := [(2, .int ((v (h0 + 5) (Int32.toNatClampNeg x1)) + 3)), (0, .ref (ad h0)), (1, .int x1)]) E dX3_standing_93 0 rfl rfl (by decide) rfl ?_
    refine jx_goto (tgt := 99) E dX3_standing_96 (by decide) ?_
    refine jx_bipush (x := 9) E dX3_standing_99 (by decide) ?_
    refine jx_iload_n E dX3_standing_101 0 rfl ?_
    obtain ⟨⟨r22, v22⟩, hc22, hF⟩ := jx_bind hF
    try dsimp only at hF
    refine jx_callTi (As := [.int 9, .int ((v (h0 + 5) (Int32.toNatClampNeg x1)) + 3)]) (st := []) E dX3_standing_102 2 rfl (k_J9_min_7cf53 hI 9 ((v (h0 + 5) (Int32.toNatClampNeg x1)) + 3) v r22 v22 hc22) (gb_N tw_34) rfl rfl rfl (List.mem_cons_of_mem _ tw_35) (List.mem_cons_of_mem _ tw_36) (List.mem_cons_of_mem _ tw_37) dd_J9_min_7cf53.2 rfl ⟨by decide, by decide⟩ ⟨Nat.le_refl 0, Nat.le_refl 0⟩ (Nat.le_of_ble_eq_true rfl) ?_
    obtain ⟨rfl, rfl⟩ := jx_out hF
    exact jx_iret E dX3_standing_105 rfl
  rw [if_neg hc21] at hF
  refine jx_tableOut (tgt := 99) E dX3_standing_17 (by have hz3 := jx_ne hc3 (k := 1) (by decide); have hz8 := jx_ne hc8 (k := 2) (by decide); have hz10 := jx_ne hc10 (k := 3) (by decide); have hz15 := jx_ne hc15 (k := 4) (by decide); have hz19 := jx_ne hc19 (k := 5) (by decide); have hz21 := jx_ne hc21 (k := 6) (by decide); omega) (by decide) ?_
  refine jx_bipush (x := 9) E dX3_standing_99 (by decide) ?_
  refine jx_iload_n E dX3_standing_101 0 rfl ?_
  obtain ⟨⟨r23, v23⟩, hc23, hF⟩ := jx_bind hF
  try dsimp only at hF
  refine jx_callTi (As := [.int 9, .int (v (h0 + 5) (Int32.toNatClampNeg x1))]) (st := []) E dX3_standing_102 2 rfl (k_J9_min_7cf53 hI 9 (v (h0 + 5) (Int32.toNatClampNeg x1)) v r23 v23 hc23) (gb_N tw_34) rfl rfl rfl (List.mem_cons_of_mem _ tw_35) (List.mem_cons_of_mem _ tw_36) (List.mem_cons_of_mem _ tw_37) dd_J9_min_7cf53.2 rfl ⟨by decide, by decide⟩ ⟨Nat.le_refl 0, Nat.le_refl 0⟩ (Nat.le_of_ble_eq_true rfl) ?_
  obtain ⟨rfl, rfl⟩ := jx_out hF
  exact jx_iret E dX3_standing_105 rfl
def f_X0_lowestSeen_L  : Nat → Int32 → Int32 → Int32 → Int32 → jx_V → Option (Int32 × jx_V)
  | 0, _, _, _, _, _ => none
  | n + 1, x1, x2, x3, x4, v => (if x1 ≤ x4 then (some (x3, v)) else (if (x4 < 0 ∨ 5 ≤ Int32.toNatClampNeg x4) then none else (if (v 50 (Int32.toNatClampNeg x4)) < 0 then (f_X0_lowestSeen_L n x1 x2 x3 (x4 + 1) v) else (if (x4 < 0 ∨ 5 ≤ Int32.toNatClampNeg x4) then none else ((f_J9_floorDiv_7cf53 ((((2 * (v 51 (Int32.toNatClampNeg x4))) - (2 * x2)) - 1) * x1) (2 * x4) v).bind (fun (r5, v5) => ((f_J9_max_7cf53 x3 ((x2 + r5) + 1) v5).bind (fun (r6, v6) => (f_X0_lowestSeen_L n x1 x2 r6 (x4 + 1) v6)))))))))
def f_X0_lowestSeen (x1 : Int32) (x2 : Int32) (v : jx_V) : Option (Int32 × jx_V) := (f_X0_lowestSeen_L 100000 x1 x2 0 1 v)
def rm_X0_lowestSeen : Room := { frames := 1, cells := 0, slots := 0, locals := 22 }
set_option maxHeartbeats 4000000 in
set_option maxRecDepth 100000 in
theorem k_X0_lowestSeen {l : Launch} {D : va_G} {cI cJ : ClassId} {ad : Nat → Nat} {A : Nat → Prop} {adK adV : Nat → Nat} (hI : jx_inj 67 ad A) (x1 : Int32) (x2 : Int32) (v : jx_V) (r : Int32) (v' : jx_V) (hF : f_X0_lowestSeen x1 x2 v = some (r, v')) : jx_Ci l D vwCl 67 cI cJ ad shX A (ex_X adK adV A) yX0_lowestSeen (Cond.code yX0_lowestSeen cX0_lowestSeen 6 (some .int) :: bigT) rm_X0_lowestSeen [.ref (ad 49), .int x1, .int x2] v r v' := by
  unfold f_X0_lowestSeen at hF
  refine jx_enteri bigT RX0 cX0_lowestSeen 6 (some .int) [(0, .ref (ad 49)), (1, .int x1), (2, .int x2)] hI (ex_X_ok adK adV A) (by decide +kernel) rfl (Nat.le_of_ble_eq_true rfl) rfl rfl ?_
  intro p e s m args below meth c E
  have iX0 : ∀ w ∈ u_ws RX0 TX0 3, w ∈ (Cond.code yX0_lowestSeen cX0_lowestSeen 6 (some .int) :: bigT) := fun w h => List.mem_cons_of_mem _ (uw_X0 w h)
  have key : ∀ n : Nat, (∀ (x1 : Int32) (x2 : Int32) (x3 : Int32) (x4 : Int32) (v : jx_V), f_X0_lowestSeen_L  n  x1 x2 x3 x4 v = some (r, v') → jx_J p l e rm_X0_lowestSeen s m args below meth c D vwCl 67 cI cJ ad shX A 0 0 6 (MQ below (va_Qi (fun (r1 : Int32) (_ : Unit) => r1 = r) (fun _ t => va_P D vwCl (jx_ws 67 cI cJ ad shX v') t.heap) A) args s 0 0 A) v 5 [(0, .ref (ad 49)), (1, .int x1), (2, .int x2), (3, .int x3), (4, .int x4)] []) := by
    intro n
    induction n with
    | zero =>
      exact (fun _ _ _ _ _ h => by cases h)
    | succ n ih =>
      intro x1 x2 x3 x4 v hF
      rw [f_X0_lowestSeen_L] at hF
      refine jx_iload E dX0_lowestSeen_5 4 rfl ?_
      refine jx_iload_n E dX0_lowestSeen_7 1 rfl ?_
      refine jx_icmp_ge (tgt := 64) E dX0_lowestSeen_8 (by decide) (fun hc1 => ?_) (fun hc1 => ?_)
      · rw [if_pos hc1] at hF
        refine jx_iload_n E dX0_lowestSeen_64 3 rfl ?_
        obtain ⟨rfl, rfl⟩ := jx_out hF
        exact jx_iret E dX0_lowestSeen_65 rfl
      · rw [if_neg hc1] at hF
        refine jx_aload_n E dX0_lowestSeen_11 0 rfl ?_
        refine jx_getr (C := RX0) (T := TX0) (M := 3) (k := 0) E dX0_lowestSeen_12 (Nat.le_of_ble_eq_true rfl) s_X49 rfl iX0 (by decide) rfl (List.mem_cons_of_mem _ tw_38) rfl ?_
        refine jx_iload E dX0_lowestSeen_15 4 rfl ?_
        obtain ⟨hg2, hF⟩ := jx_guard hF
        refine jx_iald (h := 50) (j := (Int32.toNatClampNeg x4)) E dX0_lowestSeen_17 (Nat.le_of_ble_eq_true rfl) s_X50 hg2 rfl ?_
        refine jx_if_lt (tgt := 58) E dX0_lowestSeen_18 (by decide) (fun hc3 => ?_) (fun hc3 => ?_)
        · rw [if_pos hc3] at hF
          refine jx_iinc (y := (x4 + 1)) (lv' := [(4, .int (x4 + 1)), (0, .ref (ad 49)), (1, .int x1), (2, .int x2), (3, .int x3)]) E dX0_lowestSeen_58 4 rfl rfl (by decide) rfl ?_
          refine jx_goto (tgt := 5) E dX0_lowestSeen_61 (by decide) ?_
          refine jx_sub [1, 2, 3, 4, 0] rfl ?_
          exact ih x1 x2 x3 (x4 + 1) v hF
        · rw [if_neg hc3] at hF
          refine jx_iconst (x := 2) E dX0_lowestSeen_21 (by decide) ?_
          refine jx_aload_n E dX0_lowestSeen_22 0 rfl ?_
          refine jx_getr (C := RX0) (T := TX0) (M := 3) (k := 1) E dX0_lowestSeen_23 (Nat.le_of_ble_eq_true rfl) s_X49 rfl iX0 (by decide) rfl (List.mem_cons_of_mem _ tw_39) rfl ?_
          refine jx_iload E dX0_lowestSeen_26 4 rfl ?_
          obtain ⟨hg4, hF⟩ := jx_guard hF
          refine jx_iald (h := 51) (j := (Int32.toNatClampNeg x4)) E dX0_lowestSeen_28 (Nat.le_of_ble_eq_true rfl) s_X51 hg4 rfl ?_
          refine jx_imul E dX0_lowestSeen_29 ?_
          refine jx_iconst (x := 2) E dX0_lowestSeen_30 (by decide) ?_
          refine jx_iload_n E dX0_lowestSeen_31 2 rfl ?_
          refine jx_imul E dX0_lowestSeen_32 ?_
          refine jx_isub E dX0_lowestSeen_33 ?_
          refine jx_iconst (x := 1) E dX0_lowestSeen_34 (by decide) ?_
          refine jx_isub E dX0_lowestSeen_35 ?_
          refine jx_iload_n E dX0_lowestSeen_36 1 rfl ?_
          refine jx_imul E dX0_lowestSeen_37 ?_
          refine jx_istore (lv' := [(5, .int ((((2 * (v 51 (Int32.toNatClampNeg x4))) - (2 * x2)) - 1) * x1)), (0, .ref (ad 49)), (1, .int x1), (2, .int x2), (3, .int x3), (4, .int x4)]) E dX0_lowestSeen_38 (by decide) rfl ?_
          refine jx_iload_n E dX0_lowestSeen_40 4 rfl ?_
          refine jx_iload_n E dX0_lowestSeen_41 3 rfl ?_
          refine jx_iload E dX0_lowestSeen_42 0 rfl ?_
          refine jx_iconst (x := 2) E dX0_lowestSeen_44 (by decide) ?_
          refine jx_iload E dX0_lowestSeen_45 5 rfl ?_
          refine jx_imul E dX0_lowestSeen_47 ?_
          obtain ⟨⟨r5, v5⟩, hc5, hF⟩ := jx_bind hF
          try dsimp only at hF
          refine jx_callTi (As := [.int ((((2 * (v 51 (Int32.toNatClampNeg x4))) - (2 * x2)) - 1) * x1), .int (2 * x4)]) (st := [.int x2, .int x3]) E dX0_lowestSeen_48 2 rfl (k_J9_floorDiv_7cf53 hI ((((2 * (v 51 (Int32.toNatClampNeg x4))) - (2 * x2)) - 1) * x1) (2 * x4) v r5 v5 hc5) (gb_N tw_40) rfl rfl rfl (List.mem_cons_of_mem _ tw_41) (List.mem_cons_of_mem _ tw_42) (List.mem_cons_of_mem _ tw_37) dd_J9_floorDiv_7cf53.2 rfl ⟨by decide, by decide⟩ ⟨Nat.le_refl 0, Nat.le_refl 0⟩ (Nat.le_of_ble_eq_true rfl) ?_
          refine jx_iadd E dX0_lowestSeen_51 ?_
          refine jx_iconst (x := 1) E dX0_lowestSeen_52 (by decide) ?_
          refine jx_iadd E dX0_lowestSeen_53 ?_
          obtain ⟨⟨r6, v6⟩, hc6, hF⟩ := jx_bind hF
          try dsimp only at hF
          refine jx_callTi (As := [.int x3, .int ((x2 + r5) + 1)]) (st := []) E dX0_lowestSeen_54 2 rfl (k_J9_max_7cf53 hI x3 ((x2 + r5) + 1) v5 r6 v6 hc6) (gb_N tw_43) rfl rfl rfl (List.mem_cons_of_mem _ tw_44) (List.mem_cons_of_mem _ tw_45) (List.mem_cons_of_mem _ tw_37) dd_J9_max_7cf53.2 rfl ⟨by decide, by decide⟩ ⟨Nat.le_refl 0, Nat.le_refl 0⟩ (Nat.le_of_ble_eq_true rfl) ?_
          refine jx_istore_n (lv' := [(3, .int r6), (5, .int ((((2 * (v 51 (Int32.toNatClampNeg x4))) - (2 * x2)) - 1) * x1)), (0, .ref (ad 49)), (1, .int x1), (2, .int x2), (4, .int x4)]) E dX0_lowestSeen_57 (by decide) rfl ?_
          refine jx_iinc (y := (x4 + 1)) (lv' := [(4, .int (x4 + 1)), (3, .int r6), (5, .int ((((2 * (v 51 (Int32.toNatClampNeg x4))) - (2 * x2)) - 1) * x1)), (0, .ref (ad 49)), (1, .int x1), (2, .int x2)]) E dX0_lowestSeen_58 5 rfl rfl (by decide) rfl ?_
          refine jx_goto (tgt := 5) E dX0_lowestSeen_61 (by decide) ?_
          refine jx_sub [3, 4, 5, 1, 0] rfl ?_
          exact ih x1 x2 r6 (x4 + 1) v6 hF
  refine jx_iconst (x := 0) E dX0_lowestSeen_0 (by decide) ?_
  refine jx_istore_n (lv' := [(3, .int 0), (0, .ref (ad 49)), (1, .int x1), (2, .int x2)]) E dX0_lowestSeen_1 (by decide) rfl ?_
  refine jx_iconst (x := 1) E dX0_lowestSeen_2 (by decide) ?_
  refine jx_istore (lv' := [(4, .int 1), (3, .int 0), (0, .ref (ad 49)), (1, .int x1), (2, .int x2)]) E dX0_lowestSeen_3 (by decide) rfl ?_
  refine jx_sub [2, 3, 4, 1, 0] rfl ?_
  exact (key 100000) x1 x2 0 1 v hF
def f_X0_look_L (h1 : Nat) : Nat → Int32 → Int32 → Int32 → Int32 → Int32 → jx_V → Option (jx_V)
  | 0, _, _, _, _, _, _ => none
  | n + 1, x2, x3, x4, x5, x6, v => (if 4 < x6 then (some v) else ((f_X0_nextLot x5 x4 v).bind (fun (r5, v5) => (if r5 < 0 then (if (x6 < 0 ∨ 5 ≤ Int32.toNatClampNeg x6) then none else (if (x6 < 0 ∨ 5 ≤ Int32.toNatClampNeg x6) then none else (if (x6 < 0 ∨ 5 ≤ Int32.toNatClampNeg x6) then none else (f_X0_look_L h1 n x2 x3 x4 r5 (x6 + 1) (jx_up (jx_up (jx_up v5 50 (Int32.toNatClampNeg x6) (-1)) 51 (Int32.toNatClampNeg x6) 0) 52 (Int32.toNatClampNeg x6) 0))))) else ((f_X3_isTaken h1 r5 v5).bind (fun (r10, v10) => (if r10 = 0 then (if (x6 < 0 ∨ 5 ≤ Int32.toNatClampNeg x6) then none else (if (x6 < 0 ∨ 5 ≤ Int32.toNatClampNeg x6) then none else (if (x6 < 0 ∨ 5 ≤ Int32.toNatClampNeg x6) then none else (f_X0_look_L h1 n x2 x3 x4 r5 (x6 + 1) (jx_up (jx_up (jx_up v10 50 (Int32.toNatClampNeg x6) (-1)) 51 (Int32.toNatClampNeg x6) 0) 52 (Int32.toNatClampNeg x6) 0))))) else (if (x6 < 0 ∨ 5 ≤ Int32.toNatClampNeg x6) then none else ((f_X3_standing h1 r5 (jx_up v10 50 (Int32.toNatClampNeg x6) r5)).bind (fun (r16, v16) => (if (x6 < 0 ∨ 5 ≤ Int32.toNatClampNeg x6) then none else ((f_X0_lowestSeen x6 x3 (jx_up v16 51 (Int32.toNatClampNeg x6) r16)).bind (fun (r18, v18) => (if (x6 < 0 ∨ 5 ≤ Int32.toNatClampNeg x6) then none else (f_X0_look_L h1 n x2 x3 x4 r5 (x6 + 1) (jx_up v18 52 (Int32.toNatClampNeg x6) r18))))))))))))))))
def f_X0_look (h1 : Nat) (x2 : Int32) (v : jx_V) : Option (jx_V) := (if (x2 < 0 ∨ 10 ≤ Int32.toNatClampNeg x2) then none else (if (x2 < 0 ∨ 10 ≤ Int32.toNatClampNeg x2) then none else (if (x2 < 0 ∨ 10 ≤ Int32.toNatClampNeg x2) then none else (f_X0_look_L h1 100000 x2 (v (h1 + 8) (Int32.toNatClampNeg x2)) (v (h1 + 9) (Int32.toNatClampNeg x2)) (v (h1 + 7) (Int32.toNatClampNeg x2)) 1 v))))
def rm_X0_look : Room := { frames := 2, cells := 0, slots := 0, locals := 47 }
set_option maxHeartbeats 4000000 in
set_option maxRecDepth 100000 in
theorem k_X0_look {l : Launch} {D : va_G} {cI cJ : ClassId} {ad : Nat → Nat} {A : Nat → Prop} {adK adV : Nat → Nat} (hI : jx_inj 67 ad A) (h1 : Nat) (hT1 : jx_T h1) (x2 : Int32) (v : jx_V) (v' : jx_V) (hF : f_X0_look h1 x2 v = some v') : jx_Cv l D vwCl 67 cI cJ ad shX A (ex_X adK adV A) yX0_look (Cond.code yX0_look cX0_look 7 (none) :: bigT) rm_X0_look [.ref (ad 49), .ref (ad h1), .int x2] v v' := by
  unfold f_X0_look at hF
  refine jx_enterv bigT RX0 cX0_look 7 (none) [(0, .ref (ad 49)), (1, .ref (ad h1)), (2, .int x2)] hI (ex_X_ok adK adV A) (by decide +kernel) rfl (Nat.le_of_ble_eq_true rfl) rfl rfl ?_
  intro p e s m args below meth c E
  have iX0 : ∀ w ∈ u_ws RX0 TX0 3, w ∈ (Cond.code yX0_look cX0_look 7 (none) :: bigT) := fun w h => List.mem_cons_of_mem _ (uw_X0 w h)
  have iX3 : ∀ w ∈ u_ws RX3 TX3 8, w ∈ (Cond.code yX0_look cX0_look 7 (none) :: bigT) := fun w h => List.mem_cons_of_mem _ (uw_X3 w h)
  have key : ∀ n : Nat, (∀ (x2 : Int32) (x3 : Int32) (x4 : Int32) (x5 : Int32) (x6 : Int32) (v : jx_V), f_X0_look_L h1 n  x2 x3 x4 x5 x6 v = some v' → jx_J p l e rm_X0_look s m args below meth c D vwCl 67 cI cJ ad shX A 0 0 7 (MQ below (va_Qv (fun (_ : Unit) => True) (fun _ t => va_P D vwCl (jx_ws 67 cI cJ ad shX v') t.heap) A) args s 0 0 A) v 32 [(0, .ref (ad 49)), (1, .ref (ad h1)), (2, .int x2), (3, .int x3), (4, .int x4), (5, .int x5), (6, .int x6)] []) := by
    intro n
    induction n with
    | zero =>
      exact (fun _ _ _ _ _ _ h => by cases h)
    | succ n ih =>
      intro x2 x3 x4 x5 x6 v hF
      rw [f_X0_look_L] at hF
      refine jx_iload E dX0_look_32 6 rfl ?_
      refine jx_iconst (x := 4) E dX0_look_34 (by decide) ?_
      refine jx_icmp_gt (tgt := 130) E dX0_look_35 (by decide) (fun hc4 => ?_) (fun hc4 => ?_)
      · rw [if_pos hc4] at hF
        obtain rfl := Option.some.inj hF
        exact jx_vret E dX0_look_130 rfl
      · rw [if_neg hc4] at hF
        refine jx_iload E dX0_look_38 5 rfl ?_
        refine jx_iload E dX0_look_40 4 rfl ?_
        obtain ⟨⟨r5, v5⟩, hc5, hF⟩ := jx_bind hF
        try dsimp only at hF
        refine jx_callSi (As := [.int x5, .int x4]) (st := []) E dX0_look_42 2 rfl (k_X0_nextLot hI x5 x4 v r5 v5 hc5) (gb_S (List.mem_cons_of_mem _ tw_47) (List.mem_cons_of_mem _ tw_48) (List.mem_cons_of_mem _ tw_49) tw_46) rfl rfl rfl dd_X0_nextLot rfl ⟨by decide, by decide⟩ ⟨Nat.le_refl 0, Nat.le_refl 0⟩ (Nat.le_of_ble_eq_true rfl) ?_
        refine jx_istore (lv' := [(5, .int r5), (0, .ref (ad 49)), (1, .ref (ad h1)), (2, .int x2), (3, .int x3), (4, .int x4), (6, .int x6)]) E dX0_look_45 (by decide) rfl ?_
        refine jx_iload E dX0_look_47 0 rfl ?_
        refine jx_if_lt (tgt := 100) E dX0_look_49 (by decide) (fun hc6 => ?_) (fun hc6 => ?_)
        · rw [if_pos hc6] at hF
          refine jx_aload_n E dX0_look_100 1 rfl ?_
          refine jx_getr (C := RX0) (T := TX0) (M := 3) (k := 0) E dX0_look_101 (Nat.le_of_ble_eq_true rfl) s_X49 rfl iX0 (by decide) rfl (List.mem_cons_of_mem _ tw_38) rfl ?_
          refine jx_iload E dX0_look_104 6 rfl ?_
          refine jx_iconst (x := -1) E dX0_look_106 (by decide) ?_
          obtain ⟨hg7, hF⟩ := jx_guard hF
          refine jx_iast (h := 50) (j := (Int32.toNatClampNeg x6)) E dX0_look_107 (Nat.le_of_ble_eq_true rfl) s_X50 hg7 rfl ?_
          refine jx_aload_n E dX0_look_108 1 rfl ?_
          refine jx_getr (C := RX0) (T := TX0) (M := 3) (k := 1) E dX0_look_109 (Nat.le_of_ble_eq_true rfl) s_X49 rfl iX0 (by decide) rfl (List.mem_cons_of_mem _ tw_39) rfl ?_
          refine jx_iload E dX0_look_112 6 rfl ?_
          refine jx_iconst (x := 0) E dX0_look_114 (by decide) ?_
          obtain ⟨hg8, hF⟩ := jx_guard hF
          refine jx_iast (h := 51) (j := (Int32.toNatClampNeg x6)) E dX0_look_115 (Nat.le_of_ble_eq_true rfl) s_X51 hg8 rfl ?_
          refine jx_aload_n E dX0_look_116 1 rfl ?_
          refine jx_getr (C := RX0) (T := TX0) (M := 3) (k := 2) E dX0_look_117 (Nat.le_of_ble_eq_true rfl) s_X49 rfl iX0 (by decide) rfl (List.mem_cons_of_mem _ tw_50) rfl ?_
          refine jx_iload E dX0_look_120 6 rfl ?_
          refine jx_iconst (x := 0) E dX0_look_122 (by decide) ?_
          obtain ⟨hg9, hF⟩ := jx_guard hF
          refine jx_iast (h := 52) (j := (Int32.toNatClampNeg x6)) E dX0_look_123 (Nat.le_of_ble_eq_true rfl) s_X52 hg9 rfl ?_
          refine jx_iinc (y := (x6 + 1)) (lv' := [(6, .int (x6 + 1)), (5, .int r5), (0, .ref (ad 49)), (1, .ref (ad h1)), (2, .int x2), (3, .int x3), (4, .int x4)]) E dX0_look_124 6 rfl rfl (by decide) rfl ?_
          refine jx_goto (tgt := 32) E dX0_look_127 (by decide) ?_
          refine jx_sub [2, 3, 4, 5, 6, 1, 0] rfl ?_
          exact ih x2 x3 x4 r5 (x6 + 1) (jx_up (jx_up (jx_up v5 50 (Int32.toNatClampNeg x6) (-1)) 51 (Int32.toNatClampNeg x6) 0) 52 (Int32.toNatClampNeg x6) 0) hF
        · rw [if_neg hc6] at hF
          refine jx_aload_n E dX0_look_52 2 rfl ?_
          refine jx_iload E dX0_look_53 0 rfl ?_
          obtain ⟨⟨r10, v10⟩, hc10, hF⟩ := jx_bind hF
          try dsimp only at hF
          refine jx_callNi (As := [.int r5]) (st := []) (h := h1) E dX0_look_55 1 rfl (k_X3_isTaken hI h1 hT1 r5 v5 r10 v10 hc10) (gb_N tw_51) rfl rfl rfl (ex_m13 (jx_ex E)) (List.mem_cons_of_mem _ tw_33) (List.mem_cons_of_mem _ tw_52) (List.mem_cons_of_mem _ tw_53) dd_X3_isTaken.2 rfl (n_T0 hT1) (s_T0 hT1) rfl ⟨by decide, by decide⟩ ⟨Nat.le_refl 0, Nat.le_refl 0⟩ (Nat.le_of_ble_eq_true rfl) ?_
          refine jx_if_eq (tgt := 100) E dX0_look_58 (by decide) (fun hc11 => ?_) (fun hc11 => ?_)
          · rw [if_pos hc11] at hF
            refine jx_aload_n E dX0_look_100 1 rfl ?_
            refine jx_getr (C := RX0) (T := TX0) (M := 3) (k := 0) E dX0_look_101 (Nat.le_of_ble_eq_true rfl) s_X49 rfl iX0 (by decide) rfl (List.mem_cons_of_mem _ tw_38) rfl ?_
            refine jx_iload E dX0_look_104 6 rfl ?_
            refine jx_iconst (x := -1) E dX0_look_106 (by decide) ?_
            obtain ⟨hg12, hF⟩ := jx_guard hF
            refine jx_iast (h := 50) (j := (Int32.toNatClampNeg x6)) E dX0_look_107 (Nat.le_of_ble_eq_true rfl) s_X50 hg12 rfl ?_
            refine jx_aload_n E dX0_look_108 1 rfl ?_
            refine jx_getr (C := RX0) (T := TX0) (M := 3) (k := 1) E dX0_look_109 (Nat.le_of_ble_eq_true rfl) s_X49 rfl iX0 (by decide) rfl (List.mem_cons_of_mem _ tw_39) rfl ?_
            refine jx_iload E dX0_look_112 6 rfl ?_
            refine jx_iconst (x := 0) E dX0_look_114 (by decide) ?_
            obtain ⟨hg13, hF⟩ := jx_guard hF
            refine jx_iast (h := 51) (j := (Int32.toNatClampNeg x6)) E dX0_look_115 (Nat.le_of_ble_eq_true rfl) s_X51 hg13 rfl ?_
            refine jx_aload_n E dX0_look_116 1 rfl ?_
            refine jx_getr (C := RX0) (T := TX0) (M := 3) (k := 2) E dX0_look_117 (Nat.le_of_ble_eq_true rfl) s_X49 rfl iX0 (by decide) rfl (List.mem_cons_of_mem _ tw_50) rfl ?_
            refine jx_iload E dX0_look_120 6 rfl ?_
            refine jx_iconst (x := 0) E dX0_look_122 (by decide) ?_
            obtain ⟨hg14, hF⟩ := jx_guard hF
            refine jx_iast (h := 52) (j := (Int32.toNatClampNeg x6)) E dX0_look_123 (Nat.le_of_ble_eq_true rfl) s_X52 hg14 rfl ?_
            refine jx_iinc (y := (x6 + 1)) (lv' := [(6, .int (x6 + 1)), (5, .int r5), (0, .ref (ad 49)), (1, .ref (ad h1)), (2, .int x2), (3, .int x3), (4, .int x4)]) E dX0_look_124 6 rfl rfl (by decide) rfl ?_
            refine jx_goto (tgt := 32) E dX0_look_127 (by decide) ?_
            refine jx_sub [2, 3, 4, 5, 6, 1, 0] rfl ?_
            exact ih x2 x3 x4 r5 (x6 + 1) (jx_up (jx_up (jx_up v10 50 (Int32.toNatClampNeg x6) (-1)) 51 (Int32.toNatClampNeg x6) 0) 52 (Int32.toNatClampNeg x6) 0) hF
          · rw [if_neg hc11] at hF
            refine jx_aload_n E dX0_look_61 1 rfl ?_
            refine jx_getr (C := RX0) (T := TX0) (M := 3) (k := 0) E dX0_look_62 (Nat.le_of_ble_eq_true rfl) s_X49 rfl iX0 (by decide) rfl (List.mem_cons_of_mem _ tw_38) rfl ?_
            refine jx_iload E dX0_look_65 6 rfl ?_
            refine jx_iload E dX0_look_67 0 rfl ?_
            obtain ⟨hg15, hF⟩ := jx_guard hF
            refine jx_iast (h := 50) (j := (Int32.toNatClampNeg x6)) E dX0_look_69 (Nat.le_of_ble_eq_true rfl) s_X50 hg15 rfl ?_
            refine jx_aload_n E dX0_look_70 1 rfl ?_
            refine jx_getr (C := RX0) (T := TX0) (M := 3) (k := 1) E dX0_look_71 (Nat.le_of_ble_eq_true rfl) s_X49 rfl iX0 (by decide) rfl (List.mem_cons_of_mem _ tw_39) rfl ?_
            refine jx_iload E dX0_look_74 6 rfl ?_
            refine jx_aload_n E dX0_look_76 2 rfl ?_
            refine jx_iload E dX0_look_77 0 rfl ?_
            obtain ⟨⟨r16, v16⟩, hc16, hF⟩ := jx_bind hF
            try dsimp only at hF
            refine jx_callNi (As := [.int r5]) (st := [.int x6, .ref (ad 51)]) (h := h1) E dX0_look_79 1 rfl (k_X3_standing hI h1 hT1 r5 (jx_up v10 50 (Int32.toNatClampNeg x6) r5) r16 v16 hc16) (gb_N tw_54) rfl rfl rfl (ex_m14 (jx_ex E)) (List.mem_cons_of_mem _ tw_33) (List.mem_cons_of_mem _ tw_55) (List.mem_cons_of_mem _ tw_56) dd_X3_standing.2 rfl (n_T0 hT1) (s_T0 hT1) rfl ⟨by decide, by decide⟩ ⟨Nat.le_refl 0, Nat.le_refl 0⟩ (Nat.le_of_ble_eq_true rfl) ?_
            obtain ⟨hg17, hF⟩ := jx_guard hF
            refine jx_iast (h := 51) (j := (Int32.toNatClampNeg x6)) E dX0_look_82 (Nat.le_of_ble_eq_true rfl) s_X51 hg17 rfl ?_
            refine jx_aload_n E dX0_look_83 1 rfl ?_
            refine jx_getr (C := RX0) (T := TX0) (M := 3) (k := 2) E dX0_look_84 (Nat.le_of_ble_eq_true rfl) s_X49 rfl iX0 (by decide) rfl (List.mem_cons_of_mem _ tw_50) rfl ?_
            refine jx_iload E dX0_look_87 6 rfl ?_
            refine jx_aload_n E dX0_look_89 1 rfl ?_
            refine jx_iload E dX0_look_90 6 rfl ?_
            refine jx_iload_n E dX0_look_92 4 rfl ?_
            obtain ⟨⟨r18, v18⟩, hc18, hF⟩ := jx_bind hF
            try dsimp only at hF
            refine jx_callVi (As := [.int x6, .int x3]) (st := [.int x6, .ref (ad 52)]) (h := 49) E dX0_look_93 2 rfl (k_X0_lowestSeen hI x6 x3 (jx_up v16 51 (Int32.toNatClampNeg x6) r16) r18 v18 hc18) (gb_V (List.mem_cons_of_mem _ tw_58) (List.mem_cons_of_mem _ tw_59) (List.mem_cons_of_mem _ tw_60) (List.mem_cons_of_mem _ tw_49) tw_57) rfl rfl rfl dd_X0_lowestSeen rfl (Nat.le_of_ble_eq_true rfl) s_X49 rfl ⟨by decide, by decide⟩ ⟨Nat.le_refl 0, Nat.le_refl 0⟩ (Nat.le_of_ble_eq_true rfl) ?_
            obtain ⟨hg19, hF⟩ := jx_guard hF
            refine jx_iast (h := 52) (j := (Int32.toNatClampNeg x6)) E dX0_look_96 (Nat.le_of_ble_eq_true rfl) s_X52 hg19 rfl ?_
            refine jx_goto (tgt := 124) E dX0_look_97 (by decide) ?_
            refine jx_iinc (y := (x6 + 1)) (lv' := [(6, .int (x6 + 1)), (5, .int r5), (0, .ref (ad 49)), (1, .ref (ad h1)), (2, .int x2), (3, .int x3), (4, .int x4)]) E dX0_look_124 6 rfl rfl (by decide) rfl ?_
            refine jx_goto (tgt := 32) E dX0_look_127 (by decide) ?_
            refine jx_sub [2, 3, 4, 5, 6, 1, 0] rfl ?_
            exact ih x2 x3 x4 r5 (x6 + 1) (jx_up v18 52 (Int32.toNatClampNeg x6) r18) hF
  refine jx_aload_n E dX0_look_0 1 rfl ?_
  refine jx_getrN (C := RX3) (T := TX3) (M := 8) (k := 1) E dX0_look_1 (n_T0 hT1) (s_T0 hT1) rfl iX3 (by decide) rfl (ex_f2 (jx_ex E)) rfl ?_
  refine jx_iconst (x := 1) E dX0_look_4 (by decide) ?_
  refine jx_aald (h' := (h1 + 8)) E dX0_look_5 (n_T2 hT1) (s_T2 hT1) (show ¬ ((1 : Int32) < 0 ∨ 6 ≤ Int32.toNatClampNeg 1) by decide) rfl ?_
  refine jx_iload_n E dX0_look_6 2 rfl ?_
  obtain ⟨hg1, hF⟩ := jx_guard hF
  refine jx_iald (h := (h1 + 8)) (j := (Int32.toNatClampNeg x2)) E dX0_look_7 (n_T8 hT1) (s_T8 hT1) hg1 rfl ?_
  refine jx_istore_n (lv' := [(3, .int (v (h1 + 8) (Int32.toNatClampNeg x2))), (0, .ref (ad 49)), (1, .ref (ad h1)), (2, .int x2)]) E dX0_look_8 (by decide) rfl ?_
  refine jx_aload_n E dX0_look_9 2 rfl ?_
  refine jx_getrN (C := RX3) (T := TX3) (M := 8) (k := 1) E dX0_look_10 (n_T0 hT1) (s_T0 hT1) rfl iX3 (by decide) rfl (ex_f2 (jx_ex E)) rfl ?_
  refine jx_iconst (x := 2) E dX0_look_13 (by decide) ?_
  refine jx_aald (h' := (h1 + 9)) E dX0_look_14 (n_T2 hT1) (s_T2 hT1) (show ¬ ((2 : Int32) < 0 ∨ 6 ≤ Int32.toNatClampNeg 2) by decide) rfl ?_
  refine jx_iload_n E dX0_look_15 3 rfl ?_
  obtain ⟨hg2, hF⟩ := jx_guard hF
  refine jx_iald (h := (h1 + 9)) (j := (Int32.toNatClampNeg x2)) E dX0_look_16 (n_T9 hT1) (s_T9 hT1) hg2 rfl ?_
  refine jx_istore (lv' := [(4, .int (v (h1 + 9) (Int32.toNatClampNeg x2))), (3, .int (v (h1 + 8) (Int32.toNatClampNeg x2))), (0, .ref (ad 49)), (1, .ref (ad h1)), (2, .int x2)]) E dX0_look_17 (by decide) rfl ?_
  refine jx_aload_n E dX0_look_19 3 rfl ?_
  refine jx_getrN (C := RX3) (T := TX3) (M := 8) (k := 1) E dX0_look_20 (n_T0 hT1) (s_T0 hT1) rfl iX3 (by decide) rfl (ex_f2 (jx_ex E)) rfl ?_
  refine jx_iconst (x := 0) E dX0_look_23 (by decide) ?_
  refine jx_aald (h' := (h1 + 7)) E dX0_look_24 (n_T2 hT1) (s_T2 hT1) (show ¬ ((0 : Int32) < 0 ∨ 6 ≤ Int32.toNatClampNeg 0) by decide) rfl ?_
  refine jx_iload_n E dX0_look_25 4 rfl ?_
  obtain ⟨hg3, hF⟩ := jx_guard hF
  refine jx_iald (h := (h1 + 7)) (j := (Int32.toNatClampNeg x2)) E dX0_look_26 (n_T7 hT1) (s_T7 hT1) hg3 rfl ?_
  refine jx_istore (lv' := [(5, .int (v (h1 + 7) (Int32.toNatClampNeg x2))), (4, .int (v (h1 + 9) (Int32.toNatClampNeg x2))), (3, .int (v (h1 + 8) (Int32.toNatClampNeg x2))), (0, .ref (ad 49)), (1, .ref (ad h1)), (2, .int x2)]) E dX0_look_27 (by decide) rfl ?_
  refine jx_iconst (x := 1) E dX0_look_29 (by decide) ?_
  refine jx_istore (lv' := [(6, .int 1), (5, .int (v (h1 + 7) (Int32.toNatClampNeg x2))), (4, .int (v (h1 + 9) (Int32.toNatClampNeg x2))), (3, .int (v (h1 + 8) (Int32.toNatClampNeg x2))), (0, .ref (ad 49)), (1, .ref (ad h1)), (2, .int x2)]) E dX0_look_30 (by decide) rfl ?_
  refine jx_sub [4, 5, 6, 3, 2, 1, 0] rfl ?_
  exact (key 100000) x2 (v (h1 + 8) (Int32.toNatClampNeg x2)) (v (h1 + 9) (Int32.toNatClampNeg x2)) (v (h1 + 7) (Int32.toNatClampNeg x2)) 1 v hF
def f_X0_squares (x1 : Int32) (v : jx_V) : Option (Int32 × jx_V) := (if (x1 < 0 ∨ 5 ≤ Int32.toNatClampNeg x1) then none else (if (x1 < 0 ∨ 5 ≤ Int32.toNatClampNeg x1) then none else ((f_J9_max_7cf53 0 ((v 51 (Int32.toNatClampNeg x1)) - (v 52 (Int32.toNatClampNeg x1))) v).bind (fun (r3, v3) => (some (r3, v3))))))
def rm_X0_squares : Room := { frames := 1, cells := 0, slots := 0, locals := 21 }
set_option maxHeartbeats 4000000 in
set_option maxRecDepth 100000 in
theorem k_X0_squares {l : Launch} {D : va_G} {cI cJ : ClassId} {ad : Nat → Nat} {A : Nat → Prop} {adK adV : Nat → Nat} (hI : jx_inj 67 ad A) (x1 : Int32) (v : jx_V) (r : Int32) (v' : jx_V) (hF : f_X0_squares x1 v = some (r, v')) : jx_Ci l D vwCl 67 cI cJ ad shX A (ex_X adK adV A) yX0_squares (Cond.code yX0_squares cX0_squares 2 (some .int) :: bigT) rm_X0_squares [.ref (ad 49), .int x1] v r v' := by
  unfold f_X0_squares at hF
  refine jx_enteri bigT RX0 cX0_squares 2 (some .int) [(0, .ref (ad 49)), (1, .int x1)] hI (ex_X_ok adK adV A) (by decide +kernel) rfl (Nat.le_of_ble_eq_true rfl) rfl rfl ?_
  intro p e s m args below meth c E
  have iX0 : ∀ w ∈ u_ws RX0 TX0 3, w ∈ (Cond.code yX0_squares cX0_squares 2 (some .int) :: bigT) := fun w h => List.mem_cons_of_mem _ (uw_X0 w h)
  refine jx_iconst (x := 0) E dX0_squares_0 (by decide) ?_
  refine jx_aload_n E dX0_squares_1 0 rfl ?_
  refine jx_getr (C := RX0) (T := TX0) (M := 3) (k := 1) E dX0_squares_2 (Nat.le_of_ble_eq_true rfl) s_X49 rfl iX0 (by decide) rfl (List.mem_cons_of_mem _ tw_39) rfl ?_
  refine jx_iload_n E dX0_squares_5 1 rfl ?_
  obtain ⟨hg1, hF⟩ := jx_guard hF
  refine jx_iald (h := 51) (j := (Int32.toNatClampNeg x1)) E dX0_squares_6 (Nat.le_of_ble_eq_true rfl) s_X51 hg1 rfl ?_
  refine jx_aload_n E dX0_squares_7 0 rfl ?_
  refine jx_getr (C := RX0) (T := TX0) (M := 3) (k := 2) E dX0_squares_8 (Nat.le_of_ble_eq_true rfl) s_X49 rfl iX0 (by decide) rfl (List.mem_cons_of_mem _ tw_50) rfl ?_
  refine jx_iload_n E dX0_squares_11 1 rfl ?_
  obtain ⟨hg2, hF⟩ := jx_guard hF
  refine jx_iald (h := 52) (j := (Int32.toNatClampNeg x1)) E dX0_squares_12 (Nat.le_of_ble_eq_true rfl) s_X52 hg2 rfl ?_
  refine jx_isub E dX0_squares_13 ?_
  obtain ⟨⟨r3, v3⟩, hc3, hF⟩ := jx_bind hF
  try dsimp only at hF
  refine jx_callTi (As := [.int 0, .int ((v 51 (Int32.toNatClampNeg x1)) - (v 52 (Int32.toNatClampNeg x1)))]) (st := []) E dX0_squares_14 2 rfl (k_J9_max_7cf53 hI 0 ((v 51 (Int32.toNatClampNeg x1)) - (v 52 (Int32.toNatClampNeg x1))) v r3 v3 hc3) (gb_N tw_43) rfl rfl rfl (List.mem_cons_of_mem _ tw_44) (List.mem_cons_of_mem _ tw_45) (List.mem_cons_of_mem _ tw_37) dd_J9_max_7cf53.2 rfl ⟨by decide, by decide⟩ ⟨Nat.le_refl 0, Nat.le_refl 0⟩ (Nat.le_of_ble_eq_true rfl) ?_
  obtain ⟨rfl, rfl⟩ := jx_out hF
  exact jx_iret E dX0_squares_17 rfl
def f_X0_squareSet (x1 : Int32) (v : jx_V) : Option (Int32 × jx_V) := ((f_X0_squares x1 v).bind (fun (r1, v1) => (if r1 = 0 then (some (0, v1)) else (if (x1 < 0 ∨ 5 ≤ Int32.toNatClampNeg x1) then none else (if (x1 < 0 ∨ 5 ≤ Int32.toNatClampNeg x1) then none else (some (((1 <<< ((v1 51 (Int32.toNatClampNeg x1)) &&& 31)) - (1 <<< ((v1 52 (Int32.toNatClampNeg x1)) &&& 31))), v1)))))))
def rm_X0_squareSet : Room := { frames := 2, cells := 0, slots := 0, locals := 42 }
set_option maxHeartbeats 4000000 in
set_option maxRecDepth 100000 in
theorem k_X0_squareSet {l : Launch} {D : va_G} {cI cJ : ClassId} {ad : Nat → Nat} {A : Nat → Prop} {adK adV : Nat → Nat} (hI : jx_inj 67 ad A) (x1 : Int32) (v : jx_V) (r : Int32) (v' : jx_V) (hF : f_X0_squareSet x1 v = some (r, v')) : jx_Ci l D vwCl 67 cI cJ ad shX A (ex_X adK adV A) yX0_squareSet (Cond.code yX0_squareSet cX0_squareSet 2 (some .int) :: bigT) rm_X0_squareSet [.ref (ad 49), .int x1] v r v' := by
  unfold f_X0_squareSet at hF
  refine jx_enteri bigT RX0 cX0_squareSet 2 (some .int) [(0, .ref (ad 49)), (1, .int x1)] hI (ex_X_ok adK adV A) (by decide +kernel) rfl (Nat.le_of_ble_eq_true rfl) rfl rfl ?_
  intro p e s m args below meth c E
  have iX0 : ∀ w ∈ u_ws RX0 TX0 3, w ∈ (Cond.code yX0_squareSet cX0_squareSet 2 (some .int) :: bigT) := fun w h => List.mem_cons_of_mem _ (uw_X0 w h)
  refine jx_aload_n E dX0_squareSet_0 0 rfl ?_
  refine jx_iload_n E dX0_squareSet_1 1 rfl ?_
  obtain ⟨⟨r1, v1⟩, hc1, hF⟩ := jx_bind hF
  try dsimp only at hF
  refine jx_callVi (As := [.int x1]) (st := []) (h := 49) E dX0_squareSet_2 1 rfl (k_X0_squares hI x1 v r1 v1 hc1) (gb_V (List.mem_cons_of_mem _ tw_62) (List.mem_cons_of_mem _ tw_63) (List.mem_cons_of_mem _ tw_64) (List.mem_cons_of_mem _ tw_49) tw_61) rfl rfl rfl dd_X0_squares rfl (Nat.le_of_ble_eq_true rfl) s_X49 rfl ⟨by decide, by decide⟩ ⟨Nat.le_refl 0, Nat.le_refl 0⟩ (Nat.le_of_ble_eq_true rfl) ?_
  refine jx_if_ne (tgt := 12) E dX0_squareSet_5 (by decide) (fun hc2 => ?_) (fun hc2 => ?_)
  · rw [if_neg hc2] at hF
    refine jx_iconst (x := 1) E dX0_squareSet_12 (by decide) ?_
    refine jx_aload_n E dX0_squareSet_13 0 rfl ?_
    refine jx_getr (C := RX0) (T := TX0) (M := 3) (k := 1) E dX0_squareSet_14 (Nat.le_of_ble_eq_true rfl) s_X49 rfl iX0 (by decide) rfl (List.mem_cons_of_mem _ tw_39) rfl ?_
    refine jx_iload_n E dX0_squareSet_17 1 rfl ?_
    obtain ⟨hg3, hF⟩ := jx_guard hF
    refine jx_iald (h := 51) (j := (Int32.toNatClampNeg x1)) E dX0_squareSet_18 (Nat.le_of_ble_eq_true rfl) s_X51 hg3 rfl ?_
    refine jx_ishl E dX0_squareSet_19 ?_
    refine jx_iconst (x := 1) E dX0_squareSet_20 (by decide) ?_
    refine jx_aload_n E dX0_squareSet_21 0 rfl ?_
    refine jx_getr (C := RX0) (T := TX0) (M := 3) (k := 2) E dX0_squareSet_22 (Nat.le_of_ble_eq_true rfl) s_X49 rfl iX0 (by decide) rfl (List.mem_cons_of_mem _ tw_50) rfl ?_
    refine jx_iload_n E dX0_squareSet_25 1 rfl ?_
    obtain ⟨hg4, hF⟩ := jx_guard hF
    refine jx_iald (h := 52) (j := (Int32.toNatClampNeg x1)) E dX0_squareSet_26 (Nat.le_of_ble_eq_true rfl) s_X52 hg4 rfl ?_
    refine jx_ishl E dX0_squareSet_27 ?_
    refine jx_isub E dX0_squareSet_28 ?_
    obtain ⟨rfl, rfl⟩ := jx_out hF
    exact jx_iret E dX0_squareSet_29 rfl
  · rw [if_pos hc2] at hF
    refine jx_iconst (x := 0) E dX0_squareSet_8 (by decide) ?_
    refine jx_goto (tgt := 29) E dX0_squareSet_9 (by decide) ?_
    obtain ⟨rfl, rfl⟩ := jx_out hF
    exact jx_iret E dX0_squareSet_29 rfl
def f_X0_squaresInView_L (h1 : Nat) : Nat → Int32 → Int32 → Int32 → jx_V → Option (Int32 × jx_V)
  | 0, _, _, _, _ => none
  | n + 1, x2, x3, x4, v => (if 4 < x4 then (some (x3, v)) else ((f_X0_squares x4 v).bind (fun (r3, v3) => (f_X0_squaresInView_L h1 n x2 (x3 + r3) (x4 + 1) v3))))
def f_X0_squaresInView (h1 : Nat) (x2 : Int32) (v : jx_V) : Option (Int32 × jx_V) := ((f_X0_look h1 x2 v).bind (fun v1 => (f_X0_squaresInView_L h1 100000 x2 0 1 v1)))
def rm_X0_squaresInView : Room := { frames := 3, cells := 0, slots := 0, locals := 73 }
set_option maxHeartbeats 4000000 in
set_option maxRecDepth 100000 in
theorem k_X0_squaresInView {l : Launch} {D : va_G} {cI cJ : ClassId} {ad : Nat → Nat} {A : Nat → Prop} {adK adV : Nat → Nat} (hI : jx_inj 67 ad A) (h1 : Nat) (hT1 : jx_T h1) (x2 : Int32) (v : jx_V) (r : Int32) (v' : jx_V) (hF : f_X0_squaresInView h1 x2 v = some (r, v')) : jx_Ci l D vwCl 67 cI cJ ad shX A (ex_X adK adV A) yX0_squaresInView (Cond.code yX0_squaresInView cX0_squaresInView 5 (some .int) :: bigT) rm_X0_squaresInView [.ref (ad 49), .ref (ad h1), .int x2] v r v' := by
  unfold f_X0_squaresInView at hF
  refine jx_enteri bigT RX0 cX0_squaresInView 5 (some .int) [(0, .ref (ad 49)), (1, .ref (ad h1)), (2, .int x2)] hI (ex_X_ok adK adV A) (by decide +kernel) rfl (Nat.le_of_ble_eq_true rfl) rfl rfl ?_
  intro p e s m args below meth c E
  have key : ∀ n : Nat, (∀ (x2 : Int32) (x3 : Int32) (x4 : Int32) (v : jx_V), f_X0_squaresInView_L h1 n  x2 x3 x4 v = some (r, v') → jx_J p l e rm_X0_squaresInView s m args below meth c D vwCl 67 cI cJ ad shX A 0 0 5 (MQ below (va_Qi (fun (r1 : Int32) (_ : Unit) => r1 = r) (fun _ t => va_P D vwCl (jx_ws 67 cI cJ ad shX v') t.heap) A) args s 0 0 A) v 11 [(0, .ref (ad 49)), (1, .ref (ad h1)), (2, .int x2), (3, .int x3), (4, .int x4)] []) := by
    intro n
    induction n with
    | zero =>
      exact (fun _ _ _ _ h => by cases h)
    | succ n ih =>
      intro x2 x3 x4 v hF
      rw [f_X0_squaresInView_L] at hF
      refine jx_iload E dX0_squaresInView_11 4 rfl ?_
      refine jx_iconst (x := 4) E dX0_squaresInView_13 (by decide) ?_
      refine jx_icmp_gt (tgt := 32) E dX0_squaresInView_14 (by decide) (fun hc2 => ?_) (fun hc2 => ?_)
      · rw [if_pos hc2] at hF
        refine jx_iload_n E dX0_squaresInView_32 3 rfl ?_
        obtain ⟨rfl, rfl⟩ := jx_out hF
        exact jx_iret E dX0_squaresInView_33 rfl
      · rw [if_neg hc2] at hF
        refine jx_iload_n E dX0_squaresInView_17 3 rfl ?_
        refine jx_aload_n E dX0_squaresInView_18 0 rfl ?_
        refine jx_iload E dX0_squaresInView_19 4 rfl ?_
        obtain ⟨⟨r3, v3⟩, hc3, hF⟩ := jx_bind hF
        try dsimp only at hF
        refine jx_callVi (As := [.int x4]) (st := [.int x3]) (h := 49) E dX0_squaresInView_21 1 rfl (k_X0_squares hI x4 v r3 v3 hc3) (gb_V (List.mem_cons_of_mem _ tw_62) (List.mem_cons_of_mem _ tw_63) (List.mem_cons_of_mem _ tw_64) (List.mem_cons_of_mem _ tw_49) tw_61) rfl rfl rfl dd_X0_squares rfl (Nat.le_of_ble_eq_true rfl) s_X49 rfl ⟨by decide, by decide⟩ ⟨Nat.le_refl 0, Nat.le_refl 0⟩ (Nat.le_of_ble_eq_true rfl) ?_
        refine jx_iadd E dX0_squaresInView_24 ?_
        refine jx_istore_n (lv' := [(3, .int (x3 + r3)), (0, .ref (ad 49)), (1, .ref (ad h1)), (2, .int x2), (4, .int x4)]) E dX0_squaresInView_25 (by decide) rfl ?_
        refine jx_iinc (y := (x4 + 1)) (lv' := [(4, .int (x4 + 1)), (3, .int (x3 + r3)), (0, .ref (ad 49)), (1, .ref (ad h1)), (2, .int x2)]) E dX0_squaresInView_26 4 rfl rfl (by decide) rfl ?_
        refine jx_goto (tgt := 11) E dX0_squaresInView_29 (by decide) ?_
        refine jx_sub [2, 3, 4, 1, 0] rfl ?_
        exact ih x2 (x3 + r3) (x4 + 1) v3 hF
  refine jx_aload_n E dX0_squaresInView_0 0 rfl ?_
  refine jx_aload_n E dX0_squaresInView_1 1 rfl ?_
  refine jx_iload_n E dX0_squaresInView_2 2 rfl ?_
  obtain ⟨v1, hc1, hF⟩ := jx_bind hF
  try dsimp only at hF
  refine jx_callVv (As := [.ref (ad h1), .int x2]) (st := []) (h := 49) E dX0_squaresInView_3 2 rfl (k_X0_look hI h1 hT1 x2 v v1 hc1) (gb_V (List.mem_cons_of_mem _ tw_66) (List.mem_cons_of_mem _ tw_67) (List.mem_cons_of_mem _ tw_68) (List.mem_cons_of_mem _ tw_49) tw_65) rfl rfl rfl dd_X0_look rfl (Nat.le_of_ble_eq_true rfl) s_X49 rfl ⟨by decide, by decide⟩ ⟨Nat.le_refl 0, Nat.le_refl 0⟩ (Nat.le_of_ble_eq_true rfl) ?_
  refine jx_iconst (x := 0) E dX0_squaresInView_6 (by decide) ?_
  refine jx_istore_n (lv' := [(3, .int 0), (0, .ref (ad 49)), (1, .ref (ad h1)), (2, .int x2)]) E dX0_squaresInView_7 (by decide) rfl ?_
  refine jx_iconst (x := 1) E dX0_squaresInView_8 (by decide) ?_
  refine jx_istore (lv' := [(4, .int 1), (3, .int 0), (0, .ref (ad 49)), (1, .ref (ad h1)), (2, .int x2)]) E dX0_squaresInView_9 (by decide) rfl ?_
  refine jx_sub [2, 3, 4, 1, 0] rfl ?_
  exact (key 100000) x2 0 1 v1 hF
def f_X0_squaresInAllViews_L (h1 : Nat) : Nat → Int32 → Int32 → jx_V → Option (Int32 × jx_V)
  | 0, _, _, _ => none
  | n + 1, x2, x3, v => (if (v h1 5) ≤ x3 then (some (x2, v)) else ((f_X0_squaresInView h1 x3 v).bind (fun (r2, v2) => (f_X0_squaresInAllViews_L h1 n (x2 + r2) (x3 + 1) v2))))
def f_X0_squaresInAllViews (h1 : Nat) (v : jx_V) : Option (Int32 × jx_V) := (f_X0_squaresInAllViews_L h1 100000 0 0 v)
def rm_X0_squaresInAllViews : Room := { frames := 4, cells := 0, slots := 0, locals := 97 }
set_option maxHeartbeats 4000000 in
set_option maxRecDepth 100000 in
theorem k_X0_squaresInAllViews {l : Launch} {D : va_G} {cI cJ : ClassId} {ad : Nat → Nat} {A : Nat → Prop} {adK adV : Nat → Nat} (hI : jx_inj 67 ad A) (h1 : Nat) (hT1 : jx_T h1) (v : jx_V) (r : Int32) (v' : jx_V) (hF : f_X0_squaresInAllViews h1 v = some (r, v')) : jx_Ci l D vwCl 67 cI cJ ad shX A (ex_X adK adV A) yX0_squaresInAllViews (Cond.code yX0_squaresInAllViews cX0_squaresInAllViews 4 (some .int) :: bigT) rm_X0_squaresInAllViews [.ref (ad 49), .ref (ad h1)] v r v' := by
  unfold f_X0_squaresInAllViews at hF
  refine jx_enteri bigT RX0 cX0_squaresInAllViews 4 (some .int) [(0, .ref (ad 49)), (1, .ref (ad h1))] hI (ex_X_ok adK adV A) (by decide +kernel) rfl (Nat.le_of_ble_eq_true rfl) rfl rfl ?_
  intro p e s m args below meth c E
  have iX3 : ∀ w ∈ u_ws RX3 TX3 8, w ∈ (Cond.code yX0_squaresInAllViews cX0_squaresInAllViews 4 (some .int) :: bigT) := fun w h => List.mem_cons_of_mem _ (uw_X3 w h)
  have key : ∀ n : Nat, (∀ (x2 : Int32) (x3 : Int32) (v : jx_V), f_X0_squaresInAllViews_L h1 n  x2 x3 v = some (r, v') → jx_J p l e rm_X0_squaresInAllViews s m args below meth c D vwCl 67 cI cJ ad shX A 0 0 4 (MQ below (va_Qi (fun (r1 : Int32) (_ : Unit) => r1 = r) (fun _ t => va_P D vwCl (jx_ws 67 cI cJ ad shX v') t.heap) A) args s 0 0 A) v 4 [(0, .ref (ad 49)), (1, .ref (ad h1)), (2, .int x2), (3, .int x3)] []) := by
    intro n
    induction n with
    | zero =>
      exact (fun _ _ _ h => by cases h)
    | succ n ih =>
      intro x2 x3 v hF
      rw [f_X0_squaresInAllViews_L] at hF
      refine jx_iload_n E dX0_squaresInAllViews_4 3 rfl ?_
      refine jx_aload_n E dX0_squaresInAllViews_5 1 rfl ?_
      refine jx_getiN (C := RX3) (T := TX3) (M := 8) (k := 5) E dX0_squaresInAllViews_6 (n_T0 hT1) (s_T0 hT1) rfl iX3 (by decide) rfl (ex_f11 (jx_ex E)) rfl ?_
      refine jx_icmp_ge (tgt := 27) E dX0_squaresInAllViews_9 (by decide) (fun hc1 => ?_) (fun hc1 => ?_)
      · rw [if_pos hc1] at hF
        refine jx_iload_n E dX0_squaresInAllViews_27 2 rfl ?_
        obtain ⟨rfl, rfl⟩ := jx_out hF
        exact jx_iret E dX0_squaresInAllViews_28 rfl
      · rw [if_neg hc1] at hF
        refine jx_iload_n E dX0_squaresInAllViews_12 2 rfl ?_
        refine jx_aload_n E dX0_squaresInAllViews_13 0 rfl ?_
        refine jx_aload_n E dX0_squaresInAllViews_14 1 rfl ?_
        refine jx_iload_n E dX0_squaresInAllViews_15 3 rfl ?_
        obtain ⟨⟨r2, v2⟩, hc2, hF⟩ := jx_bind hF
        try dsimp only at hF
        refine jx_callVi (As := [.ref (ad h1), .int x3]) (st := [.int x2]) (h := 49) E dX0_squaresInAllViews_16 2 rfl (k_X0_squaresInView hI h1 hT1 x3 v r2 v2 hc2) (gb_V (List.mem_cons_of_mem _ tw_70) (List.mem_cons_of_mem _ tw_71) (List.mem_cons_of_mem _ tw_72) (List.mem_cons_of_mem _ tw_49) tw_69) rfl rfl rfl dd_X0_squaresInView rfl (Nat.le_of_ble_eq_true rfl) s_X49 rfl ⟨by decide, by decide⟩ ⟨Nat.le_refl 0, Nat.le_refl 0⟩ (Nat.le_of_ble_eq_true rfl) ?_
        refine jx_iadd E dX0_squaresInAllViews_19 ?_
        refine jx_istore_n (lv' := [(2, .int (x2 + r2)), (0, .ref (ad 49)), (1, .ref (ad h1)), (3, .int x3)]) E dX0_squaresInAllViews_20 (by decide) rfl ?_
        refine jx_iinc (y := (x3 + 1)) (lv' := [(3, .int (x3 + 1)), (2, .int (x2 + r2)), (0, .ref (ad 49)), (1, .ref (ad h1))]) E dX0_squaresInAllViews_21 3 rfl rfl (by decide) rfl ?_
        refine jx_goto (tgt := 4) E dX0_squaresInAllViews_24 (by decide) ?_
        refine jx_sub [2, 3, 1, 0] rfl ?_
        exact ih (x2 + r2) (x3 + 1) v2 hF
  refine jx_iconst (x := 0) E dX0_squaresInAllViews_0 (by decide) ?_
  refine jx_istore_n (lv' := [(2, .int 0), (0, .ref (ad 49)), (1, .ref (ad h1))]) E dX0_squaresInAllViews_1 (by decide) rfl ?_
  refine jx_iconst (x := 0) E dX0_squaresInAllViews_2 (by decide) ?_
  refine jx_istore_n (lv' := [(3, .int 0), (2, .int 0), (0, .ref (ad 49)), (1, .ref (ad h1))]) E dX0_squaresInAllViews_3 (by decide) rfl ?_
  refine jx_sub [2, 3, 1, 0] rfl ?_
  exact (key 100000) 0 0 v hF
def f_X0_squaresOfOwner_L (h1 : Nat) : Nat → Int32 → Int32 → Int32 → Int32 → jx_V → Option (Int32 × jx_V)
  | 0, _, _, _, _, _ => none
  | n + 1, x2, x3, x4, x5, v => (if 4 < x5 then (some (x4, v)) else (if (x5 < 0 ∨ 5 ≤ Int32.toNatClampNeg x5) then none else (if (v 50 (Int32.toNatClampNeg x5)) < 0 then (f_X0_squaresOfOwner_L h1 n x2 x3 x4 (x5 + 1) v) else (if (x5 < 0 ∨ 5 ≤ Int32.toNatClampNeg x5) then none else (if ((v 50 (Int32.toNatClampNeg x5)) < 0 ∨ 25 ≤ Int32.toNatClampNeg (v 50 (Int32.toNatClampNeg x5))) then none else (if (v (h1 + 4) (Int32.toNatClampNeg (v 50 (Int32.toNatClampNeg x5)))) = x3 then ((f_X0_squares x5 v).bind (fun (r8, v8) => (f_X0_squaresOfOwner_L h1 n x2 x3 (x4 + r8) (x5 + 1) v8))) else (f_X0_squaresOfOwner_L h1 n x2 x3 x4 (x5 + 1) v)))))))
def f_X0_squaresOfOwner (h1 : Nat) (x2 : Int32) (x3 : Int32) (v : jx_V) : Option (Int32 × jx_V) := ((f_X0_look h1 x2 v).bind (fun v1 => (f_X0_squaresOfOwner_L h1 100000 x2 x3 0 1 v1)))
def rm_X0_squaresOfOwner : Room := { frames := 3, cells := 0, slots := 0, locals := 73 }
set_option maxHeartbeats 4000000 in
set_option maxRecDepth 100000 in
theorem k_X0_squaresOfOwner {l : Launch} {D : va_G} {cI cJ : ClassId} {ad : Nat → Nat} {A : Nat → Prop} {adK adV : Nat → Nat} (hI : jx_inj 67 ad A) (h1 : Nat) (hT1 : jx_T h1) (x2 : Int32) (x3 : Int32) (v : jx_V) (r : Int32) (v' : jx_V) (hF : f_X0_squaresOfOwner h1 x2 x3 v = some (r, v')) : jx_Ci l D vwCl 67 cI cJ ad shX A (ex_X adK adV A) yX0_squaresOfOwner (Cond.code yX0_squaresOfOwner cX0_squaresOfOwner 6 (some .int) :: bigT) rm_X0_squaresOfOwner [.ref (ad 49), .ref (ad h1), .int x2, .int x3] v r v' := by
  unfold f_X0_squaresOfOwner at hF
  refine jx_enteri bigT RX0 cX0_squaresOfOwner 6 (some .int) [(0, .ref (ad 49)), (1, .ref (ad h1)), (2, .int x2), (3, .int x3)] hI (ex_X_ok adK adV A) (by decide +kernel) rfl (Nat.le_of_ble_eq_true rfl) rfl rfl ?_
  intro p e s m args below meth c E
  have iX0 : ∀ w ∈ u_ws RX0 TX0 3, w ∈ (Cond.code yX0_squaresOfOwner cX0_squaresOfOwner 6 (some .int) :: bigT) := fun w h => List.mem_cons_of_mem _ (uw_X0 w h)
  have iX3 : ∀ w ∈ u_ws RX3 TX3 8, w ∈ (Cond.code yX0_squaresOfOwner cX0_squaresOfOwner 6 (some .int) :: bigT) := fun w h => List.mem_cons_of_mem _ (uw_X3 w h)
  have key : ∀ n : Nat, (∀ (x2 : Int32) (x3 : Int32) (x4 : Int32) (x5 : Int32) (v : jx_V), f_X0_squaresOfOwner_L h1 n  x2 x3 x4 x5 v = some (r, v') → jx_J p l e rm_X0_squaresOfOwner s m args below meth c D vwCl 67 cI cJ ad shX A 0 0 6 (MQ below (va_Qi (fun (r1 : Int32) (_ : Unit) => r1 = r) (fun _ t => va_P D vwCl (jx_ws 67 cI cJ ad shX v') t.heap) A) args s 0 0 A) v 12 [(0, .ref (ad 49)), (1, .ref (ad h1)), (2, .int x2), (3, .int x3), (4, .int x4), (5, .int x5)] []) := by
    intro n
    induction n with
    | zero =>
      exact (fun _ _ _ _ _ h => by cases h)
    | succ n ih =>
      intro x2 x3 x4 x5 v hF
      rw [f_X0_squaresOfOwner_L] at hF
      refine jx_iload E dX0_squaresOfOwner_12 5 rfl ?_
      refine jx_iconst (x := 4) E dX0_squaresOfOwner_14 (by decide) ?_
      refine jx_icmp_gt (tgt := 63) E dX0_squaresOfOwner_15 (by decide) (fun hc2 => ?_) (fun hc2 => ?_)
      · rw [if_pos hc2] at hF
        refine jx_iload E dX0_squaresOfOwner_63 4 rfl ?_
        obtain ⟨rfl, rfl⟩ := jx_out hF
        exact jx_iret E dX0_squaresOfOwner_65 rfl
      · rw [if_neg hc2] at hF
        refine jx_aload_n E dX0_squaresOfOwner_18 0 rfl ?_
        refine jx_getr (C := RX0) (T := TX0) (M := 3) (k := 0) E dX0_squaresOfOwner_19 (Nat.le_of_ble_eq_true rfl) s_X49 rfl iX0 (by decide) rfl (List.mem_cons_of_mem _ tw_38) rfl ?_
        refine jx_iload E dX0_squaresOfOwner_22 5 rfl ?_
        obtain ⟨hg3, hF⟩ := jx_guard hF
        refine jx_iald (h := 50) (j := (Int32.toNatClampNeg x5)) E dX0_squaresOfOwner_24 (Nat.le_of_ble_eq_true rfl) s_X50 hg3 rfl ?_
        refine jx_if_lt (tgt := 57) E dX0_squaresOfOwner_25 (by decide) (fun hc4 => ?_) (fun hc4 => ?_)
        · rw [if_pos hc4] at hF
          refine jx_iinc (y := (x5 + 1)) (lv' := [(5, .int (x5 + 1)), (0, .ref (ad 49)), (1, .ref (ad h1)), (2, .int x2), (3, .int x3), (4, .int x4)]) E dX0_squaresOfOwner_57 5 rfl rfl (by decide) rfl ?_
          refine jx_goto (tgt := 12) E dX0_squaresOfOwner_60 (by decide) ?_
          refine jx_sub [1, 2, 3, 4, 5, 0] rfl ?_
          exact ih x2 x3 x4 (x5 + 1) v hF
        · rw [if_neg hc4] at hF
          refine jx_aload_n E dX0_squaresOfOwner_28 1 rfl ?_
          refine jx_getrN (C := RX3) (T := TX3) (M := 8) (k := 0) E dX0_squaresOfOwner_29 (n_T0 hT1) (s_T0 hT1) rfl iX3 (by decide) rfl (ex_f1 (jx_ex E)) rfl ?_
          refine jx_iconst (x := 1) E dX0_squaresOfOwner_32 (by decide) ?_
          refine jx_aald (h' := (h1 + 4)) E dX0_squaresOfOwner_33 (n_T1 hT1) (s_T1 hT1) (show ¬ ((1 : Int32) < 0 ∨ 4 ≤ Int32.toNatClampNeg 1) by decide) rfl ?_
          refine jx_aload_n E dX0_squaresOfOwner_34 0 rfl ?_
          refine jx_getr (C := RX0) (T := TX0) (M := 3) (k := 0) E dX0_squaresOfOwner_35 (Nat.le_of_ble_eq_true rfl) s_X49 rfl iX0 (by decide) rfl (List.mem_cons_of_mem _ tw_38) rfl ?_
          refine jx_iload E dX0_squaresOfOwner_38 5 rfl ?_
          obtain ⟨hg5, hF⟩ := jx_guard hF
          refine jx_iald (h := 50) (j := (Int32.toNatClampNeg x5)) E dX0_squaresOfOwner_40 (Nat.le_of_ble_eq_true rfl) s_X50 hg5 rfl ?_
          obtain ⟨hg6, hF⟩ := jx_guard hF
          refine jx_iald (h := (h1 + 4)) (j := (Int32.toNatClampNeg (v 50 (Int32.toNatClampNeg x5)))) E dX0_squaresOfOwner_41 (n_T4 hT1) (s_T4 hT1) hg6 rfl ?_
          refine jx_iload_n E dX0_squaresOfOwner_42 3 rfl ?_
          refine jx_icmp_ne (tgt := 57) E dX0_squaresOfOwner_43 (by decide) (fun hc7 => ?_) (fun hc7 => ?_)
          · rw [if_neg hc7] at hF
            refine jx_iinc (y := (x5 + 1)) (lv' := [(5, .int (x5 + 1)), (0, .ref (ad 49)), (1, .ref (ad h1)), (2, .int x2), (3, .int x3), (4, .int x4)]) E dX0_squaresOfOwner_57 5 rfl rfl (by decide) rfl ?_
            refine jx_goto (tgt := 12) E dX0_squaresOfOwner_60 (by decide) ?_
            refine jx_sub [1, 2, 3, 4, 5, 0] rfl ?_
            exact ih x2 x3 x4 (x5 + 1) v hF
          · rw [if_pos hc7] at hF
            refine jx_iload E dX0_squaresOfOwner_46 4 rfl ?_
            refine jx_aload_n E dX0_squaresOfOwner_48 0 rfl ?_
            refine jx_iload E dX0_squaresOfOwner_49 5 rfl ?_
            obtain ⟨⟨r8, v8⟩, hc8, hF⟩ := jx_bind hF
            try dsimp only at hF
            refine jx_callVi (As := [.int x5]) (st := [.int x4]) (h := 49) E dX0_squaresOfOwner_51 1 rfl (k_X0_squares hI x5 v r8 v8 hc8) (gb_V (List.mem_cons_of_mem _ tw_62) (List.mem_cons_of_mem _ tw_63) (List.mem_cons_of_mem _ tw_64) (List.mem_cons_of_mem _ tw_49) tw_61) rfl rfl rfl dd_X0_squares rfl (Nat.le_of_ble_eq_true rfl) s_X49 rfl ⟨by decide, by decide⟩ ⟨Nat.le_refl 0, Nat.le_refl 0⟩ (Nat.le_of_ble_eq_true rfl) ?_
            refine jx_iadd E dX0_squaresOfOwner_54 ?_
            refine jx_istore (lv' := [(4, .int (x4 + r8)), (0, .ref (ad 49)), (1, .ref (ad h1)), (2, .int x2), (3, .int x3), (5, .int x5)]) E dX0_squaresOfOwner_55 (by decide) rfl ?_
            refine jx_iinc (y := (x5 + 1)) (lv' := [(5, .int (x5 + 1)), (4, .int (x4 + r8)), (0, .ref (ad 49)), (1, .ref (ad h1)), (2, .int x2), (3, .int x3)]) E dX0_squaresOfOwner_57 5 rfl rfl (by decide) rfl ?_
            refine jx_goto (tgt := 12) E dX0_squaresOfOwner_60 (by decide) ?_
            refine jx_sub [2, 3, 4, 5, 1, 0] rfl ?_
            exact ih x2 x3 (x4 + r8) (x5 + 1) v8 hF
  refine jx_aload_n E dX0_squaresOfOwner_0 0 rfl ?_
  refine jx_aload_n E dX0_squaresOfOwner_1 1 rfl ?_
  refine jx_iload_n E dX0_squaresOfOwner_2 2 rfl ?_
  obtain ⟨v1, hc1, hF⟩ := jx_bind hF
  try dsimp only at hF
  refine jx_callVv (As := [.ref (ad h1), .int x2]) (st := []) (h := 49) E dX0_squaresOfOwner_3 2 rfl (k_X0_look hI h1 hT1 x2 v v1 hc1) (gb_V (List.mem_cons_of_mem _ tw_66) (List.mem_cons_of_mem _ tw_67) (List.mem_cons_of_mem _ tw_68) (List.mem_cons_of_mem _ tw_49) tw_65) rfl rfl rfl dd_X0_look rfl (Nat.le_of_ble_eq_true rfl) s_X49 rfl ⟨by decide, by decide⟩ ⟨Nat.le_refl 0, Nat.le_refl 0⟩ (Nat.le_of_ble_eq_true rfl) ?_
  refine jx_iconst (x := 0) E dX0_squaresOfOwner_6 (by decide) ?_
  refine jx_istore (lv' := [(4, .int 0), (0, .ref (ad 49)), (1, .ref (ad h1)), (2, .int x2), (3, .int x3)]) E dX0_squaresOfOwner_7 (by decide) rfl ?_
  refine jx_iconst (x := 1) E dX0_squaresOfOwner_9 (by decide) ?_
  refine jx_istore (lv' := [(5, .int 1), (4, .int 0), (0, .ref (ad 49)), (1, .ref (ad h1)), (2, .int x2), (3, .int x3)]) E dX0_squaresOfOwner_10 (by decide) rfl ?_
  refine jx_sub [2, 3, 4, 5, 1, 0] rfl ?_
  exact (key 100000) x2 x3 0 1 v1 hF
def f_X0_lotSet_L (h1 : Nat) : Nat → Int32 → Int32 → Int32 → jx_V → Option (Int32 × jx_V)
  | 0, _, _, _, _ => none
  | n + 1, x2, x3, x4, v => (if 4 < x4 then (some (x3, v)) else (if (x4 < 0 ∨ 5 ≤ Int32.toNatClampNeg x4) then none else (if (v 50 (Int32.toNatClampNeg x4)) < 0 then (f_X0_lotSet_L h1 n x2 x3 (x4 + 1) v) else ((f_X0_squares x4 v).bind (fun (r5, v5) => (if r5 ≤ 0 then (f_X0_lotSet_L h1 n x2 x3 (x4 + 1) v5) else (if (x4 < 0 ∨ 5 ≤ Int32.toNatClampNeg x4) then none else (f_X0_lotSet_L h1 n x2 (x3 ||| (1 <<< ((v5 50 (Int32.toNatClampNeg x4)) &&& 31))) (x4 + 1) v5))))))))
def f_X0_lotSet (h1 : Nat) (x2 : Int32) (v : jx_V) : Option (Int32 × jx_V) := ((f_X0_look h1 x2 v).bind (fun v1 => (f_X0_lotSet_L h1 100000 x2 0 1 v1)))
def rm_X0_lotSet : Room := { frames := 3, cells := 0, slots := 0, locals := 73 }
set_option maxHeartbeats 4000000 in
set_option maxRecDepth 100000 in
theorem k_X0_lotSet {l : Launch} {D : va_G} {cI cJ : ClassId} {ad : Nat → Nat} {A : Nat → Prop} {adK adV : Nat → Nat} (hI : jx_inj 67 ad A) (h1 : Nat) (hT1 : jx_T h1) (x2 : Int32) (v : jx_V) (r : Int32) (v' : jx_V) (hF : f_X0_lotSet h1 x2 v = some (r, v')) : jx_Ci l D vwCl 67 cI cJ ad shX A (ex_X adK adV A) yX0_lotSet (Cond.code yX0_lotSet cX0_lotSet 5 (some .int) :: bigT) rm_X0_lotSet [.ref (ad 49), .ref (ad h1), .int x2] v r v' := by
  unfold f_X0_lotSet at hF
  refine jx_enteri bigT RX0 cX0_lotSet 5 (some .int) [(0, .ref (ad 49)), (1, .ref (ad h1)), (2, .int x2)] hI (ex_X_ok adK adV A) (by decide +kernel) rfl (Nat.le_of_ble_eq_true rfl) rfl rfl ?_
  intro p e s m args below meth c E
  have iX0 : ∀ w ∈ u_ws RX0 TX0 3, w ∈ (Cond.code yX0_lotSet cX0_lotSet 5 (some .int) :: bigT) := fun w h => List.mem_cons_of_mem _ (uw_X0 w h)
  have key : ∀ n : Nat, (∀ (x2 : Int32) (x3 : Int32) (x4 : Int32) (v : jx_V), f_X0_lotSet_L h1 n  x2 x3 x4 v = some (r, v') → jx_J p l e rm_X0_lotSet s m args below meth c D vwCl 67 cI cJ ad shX A 0 0 5 (MQ below (va_Qi (fun (r1 : Int32) (_ : Unit) => r1 = r) (fun _ t => va_P D vwCl (jx_ws 67 cI cJ ad shX v') t.heap) A) args s 0 0 A) v 11 [(0, .ref (ad 49)), (1, .ref (ad h1)), (2, .int x2), (3, .int x3), (4, .int x4)] []) := by
    intro n
    induction n with
    | zero =>
      exact (fun _ _ _ _ h => by cases h)
    | succ n ih =>
      intro x2 x3 x4 v hF
      rw [f_X0_lotSet_L] at hF
      refine jx_iload E dX0_lotSet_11 4 rfl ?_
      refine jx_iconst (x := 4) E dX0_lotSet_13 (by decide) ?_
      refine jx_icmp_gt (tgt := 54) E dX0_lotSet_14 (by decide) (fun hc2 => ?_) (fun hc2 => ?_)
      · rw [if_pos hc2] at hF
        refine jx_iload_n E dX0_lotSet_54 3 rfl ?_
        obtain ⟨rfl, rfl⟩ := jx_out hF
        exact jx_iret E dX0_lotSet_55 rfl
      · rw [if_neg hc2] at hF
        refine jx_aload_n E dX0_lotSet_17 0 rfl ?_
        refine jx_getr (C := RX0) (T := TX0) (M := 3) (k := 0) E dX0_lotSet_18 (Nat.le_of_ble_eq_true rfl) s_X49 rfl iX0 (by decide) rfl (List.mem_cons_of_mem _ tw_38) rfl ?_
        refine jx_iload E dX0_lotSet_21 4 rfl ?_
        obtain ⟨hg3, hF⟩ := jx_guard hF
        refine jx_iald (h := 50) (j := (Int32.toNatClampNeg x4)) E dX0_lotSet_23 (Nat.le_of_ble_eq_true rfl) s_X50 hg3 rfl ?_
        refine jx_if_lt (tgt := 48) E dX0_lotSet_24 (by decide) (fun hc4 => ?_) (fun hc4 => ?_)
        · rw [if_pos hc4] at hF
          refine jx_iinc (y := (x4 + 1)) (lv' := [(4, .int (x4 + 1)), (0, .ref (ad 49)), (1, .ref (ad h1)), (2, .int x2), (3, .int x3)]) E dX0_lotSet_48 4 rfl rfl (by decide) rfl ?_
          refine jx_goto (tgt := 11) E dX0_lotSet_51 (by decide) ?_
          refine jx_sub [1, 2, 3, 4, 0] rfl ?_
          exact ih x2 x3 (x4 + 1) v hF
        · rw [if_neg hc4] at hF
          refine jx_aload_n E dX0_lotSet_27 0 rfl ?_
          refine jx_iload E dX0_lotSet_28 4 rfl ?_
          obtain ⟨⟨r5, v5⟩, hc5, hF⟩ := jx_bind hF
          try dsimp only at hF
          refine jx_callVi (As := [.int x4]) (st := []) (h := 49) E dX0_lotSet_30 1 rfl (k_X0_squares hI x4 v r5 v5 hc5) (gb_V (List.mem_cons_of_mem _ tw_62) (List.mem_cons_of_mem _ tw_63) (List.mem_cons_of_mem _ tw_64) (List.mem_cons_of_mem _ tw_49) tw_61) rfl rfl rfl dd_X0_squares rfl (Nat.le_of_ble_eq_true rfl) s_X49 rfl ⟨by decide, by decide⟩ ⟨Nat.le_refl 0, Nat.le_refl 0⟩ (Nat.le_of_ble_eq_true rfl) ?_
          refine jx_if_le (tgt := 48) E dX0_lotSet_33 (by decide) (fun hc6 => ?_) (fun hc6 => ?_)
          · rw [if_pos hc6] at hF
            refine jx_iinc (y := (x4 + 1)) (lv' := [(4, .int (x4 + 1)), (0, .ref (ad 49)), (1, .ref (ad h1)), (2, .int x2), (3, .int x3)]) E dX0_lotSet_48 4 rfl rfl (by decide) rfl ?_
            refine jx_goto (tgt := 11) E dX0_lotSet_51 (by decide) ?_
            refine jx_sub [1, 2, 3, 4, 0] rfl ?_
            exact ih x2 x3 (x4 + 1) v5 hF
          · rw [if_neg hc6] at hF
            refine jx_iload_n E dX0_lotSet_36 3 rfl ?_
            refine jx_iconst (x := 1) E dX0_lotSet_37 (by decide) ?_
            refine jx_aload_n E dX0_lotSet_38 0 rfl ?_
            refine jx_getr (C := RX0) (T := TX0) (M := 3) (k := 0) E dX0_lotSet_39 (Nat.le_of_ble_eq_true rfl) s_X49 rfl iX0 (by decide) rfl (List.mem_cons_of_mem _ tw_38) rfl ?_
            refine jx_iload E dX0_lotSet_42 4 rfl ?_
            obtain ⟨hg7, hF⟩ := jx_guard hF
            refine jx_iald (h := 50) (j := (Int32.toNatClampNeg x4)) E dX0_lotSet_44 (Nat.le_of_ble_eq_true rfl) s_X50 hg7 rfl ?_
            refine jx_ishl E dX0_lotSet_45 ?_
            refine jx_ior E dX0_lotSet_46 ?_
            refine jx_istore_n (lv' := [(3, .int (x3 ||| (1 <<< ((v5 50 (Int32.toNatClampNeg x4)) &&& 31)))), (0, .ref (ad 49)), (1, .ref (ad h1)), (2, .int x2), (4, .int x4)]) E dX0_lotSet_47 (by decide) rfl ?_
            refine jx_iinc (y := (x4 + 1)) (lv' := [(4, .int (x4 + 1)), (3, .int (x3 ||| (1 <<< ((v5 50 (Int32.toNatClampNeg x4)) &&& 31)))), (0, .ref (ad 49)), (1, .ref (ad h1)), (2, .int x2)]) E dX0_lotSet_48 4 rfl rfl (by decide) rfl ?_
            refine jx_goto (tgt := 11) E dX0_lotSet_51 (by decide) ?_
            refine jx_sub [2, 3, 4, 1, 0] rfl ?_
            exact ih x2 (x3 ||| (1 <<< ((v5 50 (Int32.toNatClampNeg x4)) &&& 31))) (x4 + 1) v5 hF
  refine jx_aload_n E dX0_lotSet_0 0 rfl ?_
  refine jx_aload_n E dX0_lotSet_1 1 rfl ?_
  refine jx_iload_n E dX0_lotSet_2 2 rfl ?_
  obtain ⟨v1, hc1, hF⟩ := jx_bind hF
  try dsimp only at hF
  refine jx_callVv (As := [.ref (ad h1), .int x2]) (st := []) (h := 49) E dX0_lotSet_3 2 rfl (k_X0_look hI h1 hT1 x2 v v1 hc1) (gb_V (List.mem_cons_of_mem _ tw_66) (List.mem_cons_of_mem _ tw_67) (List.mem_cons_of_mem _ tw_68) (List.mem_cons_of_mem _ tw_49) tw_65) rfl rfl rfl dd_X0_look rfl (Nat.le_of_ble_eq_true rfl) s_X49 rfl ⟨by decide, by decide⟩ ⟨Nat.le_refl 0, Nat.le_refl 0⟩ (Nat.le_of_ble_eq_true rfl) ?_
  refine jx_iconst (x := 0) E dX0_lotSet_6 (by decide) ?_
  refine jx_istore_n (lv' := [(3, .int 0), (0, .ref (ad 49)), (1, .ref (ad h1)), (2, .int x2)]) E dX0_lotSet_7 (by decide) rfl ?_
  refine jx_iconst (x := 1) E dX0_lotSet_8 (by decide) ?_
  refine jx_istore (lv' := [(4, .int 1), (3, .int 0), (0, .ref (ad 49)), (1, .ref (ad h1)), (2, .int x2)]) E dX0_lotSet_9 (by decide) rfl ?_
  refine jx_sub [2, 3, 4, 1, 0] rfl ?_
  exact (key 100000) x2 0 1 v1 hF
def f_X3_squarePrice (h0 : Nat) (x1 : Int32) (v : jx_V) : Option (Int32 × jx_V) := (if (x1 < 0 ∨ 25 ≤ Int32.toNatClampNeg x1) then none else (if ((v (h0 + 6) (Int32.toNatClampNeg x1)) < 0 ∨ 4 ≤ Int32.toNatClampNeg (v (h0 + 6) (Int32.toNatClampNeg x1))) then none else (if (x1 < 0 ∨ 25 ≤ Int32.toNatClampNeg x1) then none else (if (v (h0 + 3) (Int32.toNatClampNeg x1)) = 1 then ((f_X3_isSummer h0 v).bind (fun (r5, v5) => (if r5 = 0 then (some ((v (h0 + 13) (Int32.toNatClampNeg (v (h0 + 6) (Int32.toNatClampNeg x1)))), v5)) else (some (((v (h0 + 13) (Int32.toNatClampNeg (v (h0 + 6) (Int32.toNatClampNeg x1)))) + 1), v5))))) else (if (v (h0 + 3) (Int32.toNatClampNeg x1)) = 2 then (if (v (h0 + 6) (Int32.toNatClampNeg x1)) = 0 then (some (0, v)) else (some ((v (h0 + 13) (Int32.toNatClampNeg (v (h0 + 6) (Int32.toNatClampNeg x1)))), v))) else (if (v (h0 + 3) (Int32.toNatClampNeg x1)) = 3 then ((f_X3_isSummer h0 v).bind (fun (r10, v10) => (if r10 = 0 then (some ((v (h0 + 13) (Int32.toNatClampNeg (v (h0 + 6) (Int32.toNatClampNeg x1)))), v10)) else (some (((v (h0 + 13) (Int32.toNatClampNeg (v (h0 + 6) (Int32.toNatClampNeg x1)))) + 1), v10))))) else (if (v (h0 + 3) (Int32.toNatClampNeg x1)) = 4 then (if (v (h0 + 6) (Int32.toNatClampNeg x1)) = 0 then (some (0, v)) else (some ((v (h0 + 13) (Int32.toNatClampNeg (v (h0 + 6) (Int32.toNatClampNeg x1)))), v))) else (if (v (h0 + 3) (Int32.toNatClampNeg x1)) = 5 then (some ((2 * (v (h0 + 13) (Int32.toNatClampNeg (v (h0 + 6) (Int32.toNatClampNeg x1))))), v)) else (if (v (h0 + 3) (Int32.toNatClampNeg x1)) = 6 then (some ((2 * (v (h0 + 13) (Int32.toNatClampNeg (v (h0 + 6) (Int32.toNatClampNeg x1))))), v)) else (some ((v (h0 + 13) (Int32.toNatClampNeg (v (h0 + 6) (Int32.toNatClampNeg x1)))), v)))))))))))
def rm_X3_squarePrice : Room := { frames := 1, cells := 0, slots := 0, locals := 21 }
set_option maxHeartbeats 4000000 in
set_option maxRecDepth 100000 in
theorem k_X3_squarePrice {l : Launch} {D : va_G} {cI cJ : ClassId} {ad : Nat → Nat} {A : Nat → Prop} {adK adV : Nat → Nat} (hI : jx_inj 67 ad A) (h0 : Nat) (hT0 : jx_T h0) (x1 : Int32) (v : jx_V) (r : Int32) (v' : jx_V) (hF : f_X3_squarePrice h0 x1 v = some (r, v')) : jx_Ci l D vwCl 67 cI cJ ad shX A (ex_X adK adV A) yX3_squarePrice (Cond.code yX3_squarePrice cX3_squarePrice 4 (some .int) :: bigT) rm_X3_squarePrice [.ref (ad h0), .int x1] v r v' := by
  unfold f_X3_squarePrice at hF
  refine jx_enteri bigT RX3 cX3_squarePrice 4 (some .int) [(0, .ref (ad h0)), (1, .int x1)] hI (ex_X_ok adK adV A) (by decide +kernel) rfl (Nat.le_of_ble_eq_true rfl) rfl rfl ?_
  intro p e s m args below meth c E
  have iX3 : ∀ w ∈ u_ws RX3 TX3 8, w ∈ (Cond.code yX3_squarePrice cX3_squarePrice 4 (some .int) :: bigT) := fun w h => List.mem_cons_of_mem _ (uw_X3 w h)
  refine jx_aload_n E dX3_squarePrice_0 0 rfl ?_
  refine jx_getr (C := RX3) (T := TX3) (M := 8) (k := 0) E dX3_squarePrice_1 (n_T0 hT0) (s_T0 hT0) rfl iX3 (by decide) rfl (List.mem_cons_of_mem _ tw_27) rfl ?_
  refine jx_iconst (x := 3) E dX3_squarePrice_4 (by decide) ?_
  refine jx_aald (h' := (h0 + 6)) E dX3_squarePrice_5 (n_T1 hT0) (s_T1 hT0) (show ¬ ((3 : Int32) < 0 ∨ 4 ≤ Int32.toNatClampNeg 3) by decide) rfl ?_
  refine jx_iload_n E dX3_squarePrice_6 1 rfl ?_
  obtain ⟨hg1, hF⟩ := jx_guard hF
  refine jx_iald (h := (h0 + 6)) (j := (Int32.toNatClampNeg x1)) E dX3_squarePrice_7 (n_T6 hT0) (s_T6 hT0) hg1 rfl ?_
  refine jx_istore_n (lv' := [(2, .int (v (h0 + 6) (Int32.toNatClampNeg x1))), (0, .ref (ad h0)), (1, .int x1)]) E dX3_squarePrice_8 (by decide) rfl ?_
  refine jx_aload_n E dX3_squarePrice_9 1 rfl ?_
  refine jx_getr (C := RX3) (T := TX3) (M := 8) (k := 2) E dX3_squarePrice_10 (n_T0 hT0) (s_T0 hT0) rfl iX3 (by decide) rfl (List.mem_cons_of_mem _ tw_73) rfl ?_
  refine jx_iload_n E dX3_squarePrice_13 0 rfl ?_
  obtain ⟨hg2, hF⟩ := jx_guard hF
  refine jx_iald (h := (h0 + 13)) (j := (Int32.toNatClampNeg (v (h0 + 6) (Int32.toNatClampNeg x1)))) E dX3_squarePrice_14 (n_T13 hT0) (s_T13 hT0) hg2 rfl ?_
  refine jx_istore_n (lv' := [(3, .int (v (h0 + 13) (Int32.toNatClampNeg (v (h0 + 6) (Int32.toNatClampNeg x1))))), (2, .int (v (h0 + 6) (Int32.toNatClampNeg x1))), (0, .ref (ad h0)), (1, .int x1)]) E dX3_squarePrice_15 (by decide) rfl ?_
  refine jx_aload_n E dX3_squarePrice_16 2 rfl ?_
  refine jx_getr (C := RX3) (T := TX3) (M := 8) (k := 0) E dX3_squarePrice_17 (n_T0 hT0) (s_T0 hT0) rfl iX3 (by decide) rfl (List.mem_cons_of_mem _ tw_27) rfl ?_
  refine jx_iconst (x := 0) E dX3_squarePrice_20 (by decide) ?_
  refine jx_aald (h' := (h0 + 3)) E dX3_squarePrice_21 (n_T1 hT0) (s_T1 hT0) (show ¬ ((0 : Int32) < 0 ∨ 4 ≤ Int32.toNatClampNeg 0) by decide) rfl ?_
  refine jx_iload_n E dX3_squarePrice_22 3 rfl ?_
  obtain ⟨hg3, hF⟩ := jx_guard hF
  refine jx_iald (h := (h0 + 3)) (j := (Int32.toNatClampNeg x1)) E dX3_squarePrice_23 (n_T3 hT0) (s_T3 hT0) hg3 rfl ?_
  by_cases hc4 : (v (h0 + 3) (Int32.toNatClampNeg x1)) = 1
  · rw [if_pos hc4] at hF
    refine jx_tableIn (tgt := 64) (z := 1) E dX3_squarePrice_24 hc4 (by decide) (by decide) rfl (by decide) ?_
    refine jx_aload_n E dX3_squarePrice_64 2 rfl ?_
    obtain ⟨⟨r5, v5⟩, hc5, hF⟩ := jx_bind hF
    try dsimp only at hF
    refine jx_callVi (As := []) (st := []) (h := h0) E dX3_squarePrice_65 0 rfl (k_X3_isSummer hI h0 hT0 v r5 v5 hc5) (gb_V (List.mem_cons_of_mem _ tw_30) (List.mem_cons_of_mem _ tw_31) (List.mem_cons_of_mem _ tw_32) (List.mem_cons_of_mem _ tw_33) tw_29) rfl rfl rfl dd_X3_isSummer rfl (n_T0 hT0) (s_T0 hT0) rfl ⟨by decide, by decide⟩ ⟨Nat.le_refl 0, Nat.le_refl 0⟩ (Nat.le_of_ble_eq_true rfl) ?_
    refine jx_if_eq (tgt := 77) E dX3_squarePrice_68 (by decide) (fun hc6 => ?_) (fun hc6 => ?_)
    · rw [if_pos hc6] at hF
      refine jx_iload_n E dX3_squarePrice_77 0 rfl ?_
      obtain ⟨rfl, rfl⟩ := jx_out hF
      exact jx_iret E dX3_squarePrice_78 rfl
    · rw [if_neg hc6] at hF
      refine jx_iload_n E dX3_squarePrice_71 0 rfl ?_
      refine jx_iconst (x := 1) E dX3_squarePrice_72 (by decide) ?_
      refine jx_iadd E dX3_squarePrice_73 ?_
      refine jx_goto (tgt := 78) E dX3_squarePrice_74 (by decide) ?_
      obtain ⟨rfl, rfl⟩ := jx_out hF
      exact jx_iret E dX3_squarePrice_78 rfl
  rw [if_neg hc4] at hF
  by_cases hc7 : (v (h0 + 3) (Int32.toNatClampNeg x1)) = 2
  · rw [if_pos hc7] at hF
    refine jx_tableIn (tgt := 79) (z := 2) E dX3_squarePrice_24 hc7 (by decide) (by decide) rfl (by decide) ?_
    refine jx_iload_n E dX3_squarePrice_79 1 rfl ?_
    refine jx_if_ne (tgt := 87) E dX3_squarePrice_80 (by decide) (fun hc8 => ?_) (fun hc8 => ?_)
    · rw [if_neg hc8] at hF
      refine jx_iload_n E dX3_squarePrice_87 0 rfl ?_
      obtain ⟨rfl, rfl⟩ := jx_out hF
      exact jx_iret E dX3_squarePrice_88 rfl
    · rw [if_pos hc8] at hF
      refine jx_iconst (x := 0) E dX3_squarePrice_83 (by decide) ?_
      refine jx_goto (tgt := 88) E dX3_squarePrice_84 (by decide) ?_
      obtain ⟨rfl, rfl⟩ := jx_out hF
      exact jx_iret E dX3_squarePrice_88 rfl
  rw [if_neg hc7] at hF
  by_cases hc9 : (v (h0 + 3) (Int32.toNatClampNeg x1)) = 3
  · rw [if_pos hc9] at hF
    refine jx_tableIn (tgt := 64) (z := 3) E dX3_squarePrice_24 hc9 (by decide) (by decide) rfl (by decide) ?_
    refine jx_aload_n E dX3_squarePrice_64 2 rfl ?_
    obtain ⟨⟨r10, v10⟩, hc10, hF⟩ := jx_bind hF
    try dsimp only at hF
    refine jx_callVi (As := []) (st := []) (h := h0) E dX3_squarePrice_65 0 rfl (k_X3_isSummer hI h0 hT0 v r10 v10 hc10) (gb_V (List.mem_cons_of_mem _ tw_30) (List.mem_cons_of_mem _ tw_31) (List.mem_cons_of_mem _ tw_32) (List.mem_cons_of_mem _ tw_33) tw_29) rfl rfl rfl dd_X3_isSummer rfl (n_T0 hT0) (s_T0 hT0) rfl ⟨by decide, by decide⟩ ⟨Nat.le_refl 0, Nat.le_refl 0⟩ (Nat.le_of_ble_eq_true rfl) ?_
    refine jx_if_eq (tgt := 77) E dX3_squarePrice_68 (by decide) (fun hc11 => ?_) (fun hc11 => ?_)
    · rw [if_pos hc11] at hF
      refine jx_iload_n E dX3_squarePrice_77 0 rfl ?_
      obtain ⟨rfl, rfl⟩ := jx_out hF
      exact jx_iret E dX3_squarePrice_78 rfl
    · rw [if_neg hc11] at hF
      refine jx_iload_n E dX3_squarePrice_71 0 rfl ?_
      refine jx_iconst (x := 1) E dX3_squarePrice_72 (by decide) ?_
      refine jx_iadd E dX3_squarePrice_73 ?_
      refine jx_goto (tgt := 78) E dX3_squarePrice_74 (by decide) ?_
      obtain ⟨rfl, rfl⟩ := jx_out hF
      exact jx_iret E dX3_squarePrice_78 rfl
  rw [if_neg hc9] at hF
  by_cases hc12 : (v (h0 + 3) (Int32.toNatClampNeg x1)) = 4
  · rw [if_pos hc12] at hF
    refine jx_tableIn (tgt := 79) (z := 4) E dX3_squarePrice_24 hc12 (by decide) (by decide) rfl (by decide) ?_
    refine jx_iload_n E dX3_squarePrice_79 1 rfl ?_
    refine jx_if_ne (tgt := 87) E dX3_squarePrice_80 (by decide) (fun hc13 => ?_) (fun hc13 => ?_)
    · rw [if_neg hc13] at hF
      refine jx_iload_n E dX3_squarePrice_87 0 rfl ?_
      obtain ⟨rfl, rfl⟩ := jx_out hF
      exact jx_iret E dX3_squarePrice_88 rfl
    · rw [if_pos hc13] at hF
      refine jx_iconst (x := 0) E dX3_squarePrice_83 (by decide) ?_
      refine jx_goto (tgt := 88) E dX3_squarePrice_84 (by decide) ?_
      obtain ⟨rfl, rfl⟩ := jx_out hF
      exact jx_iret E dX3_squarePrice_88 rfl
  rw [if_neg hc12] at hF
  by_cases hc14 : (v (h0 + 3) (Int32.toNatClampNeg x1)) = 5
  · rw [if_pos hc14] at hF
    refine jx_tableIn (tgt := 89) (z := 5) E dX3_squarePrice_24 hc14 (by decide) (by decide) rfl (by decide) ?_
    refine jx_iconst (x := 2) E dX3_squarePrice_89 (by decide) ?_
    refine jx_iload_n E dX3_squarePrice_90 0 rfl ?_
    refine jx_imul E dX3_squarePrice_91 ?_
    obtain ⟨rfl, rfl⟩ := jx_out hF
    exact jx_iret E dX3_squarePrice_92 rfl
  rw [if_neg hc14] at hF
  by_cases hc15 : (v (h0 + 3) (Int32.toNatClampNeg x1)) = 6
  · rw [if_pos hc15] at hF
    refine jx_tableIn (tgt := 89) (z := 6) E dX3_squarePrice_24 hc15 (by decide) (by decide) rfl (by decide) ?_
    refine jx_iconst (x := 2) E dX3_squarePrice_89 (by decide) ?_
    refine jx_iload_n E dX3_squarePrice_90 0 rfl ?_
    refine jx_imul E dX3_squarePrice_91 ?_
    obtain ⟨rfl, rfl⟩ := jx_out hF
    exact jx_iret E dX3_squarePrice_92 rfl
  rw [if_neg hc15] at hF
  refine jx_tableOut (tgt := 93) E dX3_squarePrice_24 (by have hz4 := jx_ne hc4 (k := 1) (by decide); have hz7 := jx_ne hc7 (k := 2) (by decide); have hz9 := jx_ne hc9 (k := 3) (by decide); have hz12 := jx_ne hc12 (k := 4) (by decide); have hz14 := jx_ne hc14 (k := 5) (by decide); have hz15 := jx_ne hc15 (k := 6) (by decide); omega) (by decide) ?_
  refine jx_iload_n E dX3_squarePrice_93 0 rfl ?_
  obtain ⟨rfl, rfl⟩ := jx_out hF
  exact jx_iret E dX3_squarePrice_94 rfl
def f_X0_pay_L (h1 : Nat) (h3 : Nat) : Nat → Int32 → Int32 → Int32 → Int32 → jx_V → Option (Int32 × jx_V)
  | 0, _, _, _, _, _ => none
  | n + 1, x2, x4, x5, x6, v => (if 4 < x6 then (if (x4 < 0 ∨ 4 ≤ Int32.toNatClampNeg x4) then none else (if (x4 < 0 ∨ 4 ≤ Int32.toNatClampNeg x4) then none else (some (x5, (jx_up v h3 (Int32.toNatClampNeg x4) ((v h3 (Int32.toNatClampNeg x4)) - x5)))))) else (if (x6 < 0 ∨ 5 ≤ Int32.toNatClampNeg x6) then none else (if (v 50 (Int32.toNatClampNeg x6)) < 0 then (f_X0_pay_L h1 h3 n x2 x4 x5 (x6 + 1) v) else (if ((v 50 (Int32.toNatClampNeg x6)) < 0 ∨ 25 ≤ Int32.toNatClampNeg (v 50 (Int32.toNatClampNeg x6))) then none else (if (v (h1 + 4) (Int32.toNatClampNeg (v 50 (Int32.toNatClampNeg x6)))) = x4 then (f_X0_pay_L h1 h3 n x2 x4 x5 (x6 + 1) v) else ((f_X0_squares x6 v).bind (fun (r10, v10) => ((f_X3_squarePrice h1 (v 50 (Int32.toNatClampNeg x6)) v10).bind (fun (r11, v11) => (if ((v 50 (Int32.toNatClampNeg x6)) < 0 ∨ 25 ≤ Int32.toNatClampNeg (v 50 (Int32.toNatClampNeg x6))) then none else (if ((v11 (h1 + 4) (Int32.toNatClampNeg (v 50 (Int32.toNatClampNeg x6)))) < 0 ∨ 4 ≤ Int32.toNatClampNeg (v11 (h1 + 4) (Int32.toNatClampNeg (v 50 (Int32.toNatClampNeg x6))))) then none else (if ((v11 (h1 + 4) (Int32.toNatClampNeg (v 50 (Int32.toNatClampNeg x6)))) < 0 ∨ 4 ≤ Int32.toNatClampNeg (v11 (h1 + 4) (Int32.toNatClampNeg (v 50 (Int32.toNatClampNeg x6))))) then none else (f_X0_pay_L h1 h3 n x2 x4 (x5 + (r10 * r11)) (x6 + 1) (jx_up v11 h3 (Int32.toNatClampNeg (v11 (h1 + 4) (Int32.toNatClampNeg (v 50 (Int32.toNatClampNeg x6))))) ((v11 h3 (Int32.toNatClampNeg (v11 (h1 + 4) (Int32.toNatClampNeg (v 50 (Int32.toNatClampNeg x6)))))) + (r10 * r11))))))))))))))))
def f_X0_pay (h1 : Nat) (x2 : Int32) (h3 : Nat) (v : jx_V) : Option (Int32 × jx_V) := ((f_X0_look h1 x2 v).bind (fun v1 => (if (x2 < 0 ∨ 10 ≤ Int32.toNatClampNeg x2) then none else (f_X0_pay_L h1 h3 100000 x2 (v1 (h1 + 10) (Int32.toNatClampNeg x2)) 0 1 v1))))
def rm_X0_pay : Room := { frames := 3, cells := 0, slots := 0, locals := 73 }
set_option maxHeartbeats 4000000 in
set_option maxRecDepth 100000 in
theorem k_X0_pay {l : Launch} {D : va_G} {cI cJ : ClassId} {ad : Nat → Nat} {A : Nat → Prop} {adK adV : Nat → Nat} (hI : jx_inj 67 ad A) (h1 : Nat) (hT1 : jx_T h1) (x2 : Int32) (h3 : Nat) (hS3 : shX h3 = .inl 4) (hN3 : h3 < 67) (v : jx_V) (r : Int32) (v' : jx_V) (hF : f_X0_pay h1 x2 h3 v = some (r, v')) : jx_Ci l D vwCl 67 cI cJ ad shX A (ex_X adK adV A) yX0_pay (Cond.code yX0_pay cX0_pay 9 (some .int) :: bigT) rm_X0_pay [.ref (ad 49), .ref (ad h1), .int x2, .ref (ad h3)] v r v' := by
  unfold f_X0_pay at hF
  refine jx_enteri bigT RX0 cX0_pay 9 (some .int) [(0, .ref (ad 49)), (1, .ref (ad h1)), (2, .int x2), (3, .ref (ad h3))] hI (ex_X_ok adK adV A) (by decide +kernel) rfl (Nat.le_of_ble_eq_true rfl) rfl rfl ?_
  intro p e s m args below meth c E
  have iX0 : ∀ w ∈ u_ws RX0 TX0 3, w ∈ (Cond.code yX0_pay cX0_pay 9 (some .int) :: bigT) := fun w h => List.mem_cons_of_mem _ (uw_X0 w h)
  have iX3 : ∀ w ∈ u_ws RX3 TX3 8, w ∈ (Cond.code yX0_pay cX0_pay 9 (some .int) :: bigT) := fun w h => List.mem_cons_of_mem _ (uw_X3 w h)
  have key : ∀ n : Nat, (∀ (x2 : Int32) (x4 : Int32) (x5 : Int32) (x6 : Int32) (v : jx_V), f_X0_pay_L h1 h3 n  x2 x4 x5 x6 v = some (r, v') → jx_J p l e rm_X0_pay s m args below meth c D vwCl 67 cI cJ ad shX A 0 0 9 (MQ below (va_Qi (fun (r1 : Int32) (_ : Unit) => r1 = r) (fun _ t => va_P D vwCl (jx_ws 67 cI cJ ad shX v') t.heap) A) args s 0 0 A) v 22 [(0, .ref (ad 49)), (1, .ref (ad h1)), (2, .int x2), (3, .ref (ad h3)), (4, .int x4), (5, .int x5), (6, .int x6)] []) := by
    intro n
    induction n with
    | zero =>
      exact (fun _ _ _ _ _ h => by cases h)
    | succ n ih =>
      intro x2 x4 x5 x6 v hF
      rw [f_X0_pay_L] at hF
      refine jx_iload E dX0_pay_22 6 rfl ?_
      refine jx_iconst (x := 4) E dX0_pay_24 (by decide) ?_
      refine jx_icmp_gt (tgt := 100) E dX0_pay_25 (by decide) (fun hc3 => ?_) (fun hc3 => ?_)
      · rw [if_pos hc3] at hF
        refine jx_aload_n E dX0_pay_100 3 rfl ?_
        refine jx_iload E dX0_pay_101 4 rfl ?_
        refine jx_dup2 E dX0_pay_103 rfl rfl ?_
        obtain ⟨hg4, hF⟩ := jx_guard hF
        refine jx_iald (h := h3) (j := (Int32.toNatClampNeg x4)) E dX0_pay_104 hN3 hS3 hg4 rfl ?_
        refine jx_iload E dX0_pay_105 5 rfl ?_
        refine jx_isub E dX0_pay_107 ?_
        obtain ⟨hg5, hF⟩ := jx_guard hF
        refine jx_iast (h := h3) (j := (Int32.toNatClampNeg x4)) E dX0_pay_108 hN3 hS3 hg5 rfl ?_
        refine jx_iload E dX0_pay_109 5 rfl ?_
        obtain ⟨rfl, rfl⟩ := jx_out hF
        exact jx_iret E dX0_pay_111 rfl
      · rw [if_neg hc3] at hF
        refine jx_aload_n E dX0_pay_28 0 rfl ?_
        refine jx_getr (C := RX0) (T := TX0) (M := 3) (k := 0) E dX0_pay_29 (Nat.le_of_ble_eq_true rfl) s_X49 rfl iX0 (by decide) rfl (List.mem_cons_of_mem _ tw_38) rfl ?_
        refine jx_iload E dX0_pay_32 6 rfl ?_
        obtain ⟨hg6, hF⟩ := jx_guard hF
        refine jx_iald (h := 50) (j := (Int32.toNatClampNeg x6)) E dX0_pay_34 (Nat.le_of_ble_eq_true rfl) s_X50 hg6 rfl ?_
        refine jx_istore (lv' := [(7, .int (v 50 (Int32.toNatClampNeg x6))), (0, .ref (ad 49)), (1, .ref (ad h1)), (2, .int x2), (3, .ref (ad h3)), (4, .int x4), (5, .int x5), (6, .int x6)]) E dX0_pay_35 (by decide) rfl ?_
        refine jx_iload E dX0_pay_37 0 rfl ?_
        refine jx_if_lt (tgt := 94) E dX0_pay_39 (by decide) (fun hc7 => ?_) (fun hc7 => ?_)
        · rw [if_pos hc7] at hF
          refine jx_iinc (y := (x6 + 1)) (lv' := [(6, .int (x6 + 1)), (7, .int (v 50 (Int32.toNatClampNeg x6))), (0, .ref (ad 49)), (1, .ref (ad h1)), (2, .int x2), (3, .ref (ad h3)), (4, .int x4), (5, .int x5)]) E dX0_pay_94 7 rfl rfl (by decide) rfl ?_
          refine jx_goto (tgt := 22) E dX0_pay_97 (by decide) ?_
          refine jx_sub [2, 3, 4, 5, 6, 7, 0] rfl ?_
          exact ih x2 x4 x5 (x6 + 1) v hF
        · rw [if_neg hc7] at hF
          refine jx_aload_n E dX0_pay_42 2 rfl ?_
          refine jx_getrN (C := RX3) (T := TX3) (M := 8) (k := 0) E dX0_pay_43 (n_T0 hT1) (s_T0 hT1) rfl iX3 (by decide) rfl (ex_f1 (jx_ex E)) rfl ?_
          refine jx_iconst (x := 1) E dX0_pay_46 (by decide) ?_
          refine jx_aald (h' := (h1 + 4)) E dX0_pay_47 (n_T1 hT1) (s_T1 hT1) (show ¬ ((1 : Int32) < 0 ∨ 4 ≤ Int32.toNatClampNeg 1) by decide) rfl ?_
          refine jx_iload E dX0_pay_48 0 rfl ?_
          obtain ⟨hg8, hF⟩ := jx_guard hF
          refine jx_iald (h := (h1 + 4)) (j := (Int32.toNatClampNeg (v 50 (Int32.toNatClampNeg x6)))) E dX0_pay_50 (n_T4 hT1) (s_T4 hT1) hg8 rfl ?_
          refine jx_iload E dX0_pay_51 5 rfl ?_
          refine jx_icmp_eq (tgt := 94) E dX0_pay_53 (by decide) (fun hc9 => ?_) (fun hc9 => ?_)
          · rw [if_pos hc9] at hF
            refine jx_iinc (y := (x6 + 1)) (lv' := [(6, .int (x6 + 1)), (7, .int (v 50 (Int32.toNatClampNeg x6))), (0, .ref (ad 49)), (1, .ref (ad h1)), (2, .int x2), (3, .ref (ad h3)), (4, .int x4), (5, .int x5)]) E dX0_pay_94 7 rfl rfl (by decide) rfl ?_
            refine jx_goto (tgt := 22) E dX0_pay_97 (by decide) ?_
            refine jx_sub [2, 3, 4, 5, 6, 7, 0] rfl ?_
            exact ih x2 x4 x5 (x6 + 1) v hF
          · rw [if_neg hc9] at hF
            refine jx_aload_n E dX0_pay_56 1 rfl ?_
            refine jx_iload E dX0_pay_57 7 rfl ?_
            obtain ⟨⟨r10, v10⟩, hc10, hF⟩ := jx_bind hF
            try dsimp only at hF
            refine jx_callVi (As := [.int x6]) (st := []) (h := 49) E dX0_pay_59 1 rfl (k_X0_squares hI x6 v r10 v10 hc10) (gb_V (List.mem_cons_of_mem _ tw_62) (List.mem_cons_of_mem _ tw_63) (List.mem_cons_of_mem _ tw_64) (List.mem_cons_of_mem _ tw_49) tw_61) rfl rfl rfl dd_X0_squares rfl (Nat.le_of_ble_eq_true rfl) s_X49 rfl ⟨by decide, by decide⟩ ⟨Nat.le_refl 0, Nat.le_refl 0⟩ (Nat.le_of_ble_eq_true rfl) ?_
            refine jx_aload_n E dX0_pay_62 2 rfl ?_
            refine jx_iload E dX0_pay_63 0 rfl ?_
            obtain ⟨⟨r11, v11⟩, hc11, hF⟩ := jx_bind hF
            try dsimp only at hF
            refine jx_callNi (As := [.int (v 50 (Int32.toNatClampNeg x6))]) (st := [.int r10]) (h := h1) E dX0_pay_65 1 rfl (k_X3_squarePrice hI h1 hT1 (v 50 (Int32.toNatClampNeg x6)) v10 r11 v11 hc11) (gb_N tw_74) rfl rfl rfl (ex_m21 (jx_ex E)) (List.mem_cons_of_mem _ tw_33) (List.mem_cons_of_mem _ tw_75) (List.mem_cons_of_mem _ tw_76) dd_X3_squarePrice.2 rfl (n_T0 hT1) (s_T0 hT1) rfl ⟨by decide, by decide⟩ ⟨Nat.le_refl 0, Nat.le_refl 0⟩ (Nat.le_of_ble_eq_true rfl) ?_
            refine jx_imul E dX0_pay_68 ?_
            refine jx_istore (lv' := [(8, .int (r10 * r11)), (7, .int (v 50 (Int32.toNatClampNeg x6))), (0, .ref (ad 49)), (1, .ref (ad h1)), (2, .int x2), (3, .ref (ad h3)), (4, .int x4), (5, .int x5), (6, .int x6)]) E dX0_pay_69 (by decide) rfl ?_
            refine jx_aload_n E dX0_pay_71 5 rfl ?_
            refine jx_aload_n E dX0_pay_72 3 rfl ?_
            refine jx_getrN (C := RX3) (T := TX3) (M := 8) (k := 0) E dX0_pay_73 (n_T0 hT1) (s_T0 hT1) rfl iX3 (by decide) rfl (ex_f1 (jx_ex E)) rfl ?_
            refine jx_iconst (x := 1) E dX0_pay_76 (by decide) ?_
            refine jx_aald (h' := (h1 + 4)) E dX0_pay_77 (n_T1 hT1) (s_T1 hT1) (show ¬ ((1 : Int32) < 0 ∨ 4 ≤ Int32.toNatClampNeg 1) by decide) rfl ?_
            refine jx_iload E dX0_pay_78 1 rfl ?_
            obtain ⟨hg12, hF⟩ := jx_guard hF
            refine jx_iald (h := (h1 + 4)) (j := (Int32.toNatClampNeg (v 50 (Int32.toNatClampNeg x6)))) E dX0_pay_80 (n_T4 hT1) (s_T4 hT1) hg12 rfl ?_
            refine jx_dup2 E dX0_pay_81 rfl rfl ?_
            obtain ⟨hg13, hF⟩ := jx_guard hF
            refine jx_iald (h := h3) (j := (Int32.toNatClampNeg (v11 (h1 + 4) (Int32.toNatClampNeg (v 50 (Int32.toNatClampNeg x6)))))) E dX0_pay_82 hN3 hS3 hg13 rfl ?_
            refine jx_iload E dX0_pay_83 0 rfl ?_
            refine jx_iadd E dX0_pay_85 ?_
            obtain ⟨hg14, hF⟩ := jx_guard hF
            refine jx_iast (h := h3) (j := (Int32.toNatClampNeg (v11 (h1 + 4) (Int32.toNatClampNeg (v 50 (Int32.toNatClampNeg x6)))))) E dX0_pay_86 hN3 hS3 hg14 rfl ?_
            refine jx_iload E dX0_pay_87 7 rfl ?_
            refine jx_iload E dX0_pay_89 0 rfl ?_
            refine jx_iadd E dX0_pay_91 ?_
            refine jx_istore (lv' := [(5, .int (x5 + (r10 * r11))), (8, .int (r10 * r11)), (7, .int (v 50 (Int32.toNatClampNeg x6))), (0, .ref (ad 49)), (1, .ref (ad h1)), (2, .int x2), (3, .ref (ad h3)), (4, .int x4), (6, .int x6)]) E dX0_pay_92 (by decide) rfl ?_
            refine jx_iinc (y := (x6 + 1)) (lv' := [(6, .int (x6 + 1)), (5, .int (x5 + (r10 * r11))), (8, .int (r10 * r11)), (7, .int (v 50 (Int32.toNatClampNeg x6))), (0, .ref (ad 49)), (1, .ref (ad h1)), (2, .int x2), (3, .ref (ad h3)), (4, .int x4)]) E dX0_pay_94 8 rfl rfl (by decide) rfl ?_
            refine jx_goto (tgt := 22) E dX0_pay_97 (by decide) ?_
            refine jx_sub [4, 5, 6, 7, 8, 1, 0] rfl ?_
            exact ih x2 x4 (x5 + (r10 * r11)) (x6 + 1) (jx_up v11 h3 (Int32.toNatClampNeg (v11 (h1 + 4) (Int32.toNatClampNeg (v 50 (Int32.toNatClampNeg x6))))) ((v11 h3 (Int32.toNatClampNeg (v11 (h1 + 4) (Int32.toNatClampNeg (v 50 (Int32.toNatClampNeg x6)))))) + (r10 * r11))) hF
  refine jx_aload_n E dX0_pay_0 0 rfl ?_
  refine jx_aload_n E dX0_pay_1 1 rfl ?_
  refine jx_iload_n E dX0_pay_2 2 rfl ?_
  obtain ⟨v1, hc1, hF⟩ := jx_bind hF
  try dsimp only at hF
  refine jx_callVv (As := [.ref (ad h1), .int x2]) (st := []) (h := 49) E dX0_pay_3 2 rfl (k_X0_look hI h1 hT1 x2 v v1 hc1) (gb_V (List.mem_cons_of_mem _ tw_66) (List.mem_cons_of_mem _ tw_67) (List.mem_cons_of_mem _ tw_68) (List.mem_cons_of_mem _ tw_49) tw_65) rfl rfl rfl dd_X0_look rfl (Nat.le_of_ble_eq_true rfl) s_X49 rfl ⟨by decide, by decide⟩ ⟨Nat.le_refl 0, Nat.le_refl 0⟩ (Nat.le_of_ble_eq_true rfl) ?_
  refine jx_aload_n E dX0_pay_6 1 rfl ?_
  refine jx_getrN (C := RX3) (T := TX3) (M := 8) (k := 1) E dX0_pay_7 (n_T0 hT1) (s_T0 hT1) rfl iX3 (by decide) rfl (ex_f2 (jx_ex E)) rfl ?_
  refine jx_iconst (x := 3) E dX0_pay_10 (by decide) ?_
  refine jx_aald (h' := (h1 + 10)) E dX0_pay_11 (n_T2 hT1) (s_T2 hT1) (show ¬ ((3 : Int32) < 0 ∨ 6 ≤ Int32.toNatClampNeg 3) by decide) rfl ?_
  refine jx_iload_n E dX0_pay_12 2 rfl ?_
  obtain ⟨hg2, hF⟩ := jx_guard hF
  refine jx_iald (h := (h1 + 10)) (j := (Int32.toNatClampNeg x2)) E dX0_pay_13 (n_T10 hT1) (s_T10 hT1) hg2 rfl ?_
  refine jx_istore (lv' := [(4, .int (v1 (h1 + 10) (Int32.toNatClampNeg x2))), (0, .ref (ad 49)), (1, .ref (ad h1)), (2, .int x2), (3, .ref (ad h3))]) E dX0_pay_14 (by decide) rfl ?_
  refine jx_iconst (x := 0) E dX0_pay_16 (by decide) ?_
  refine jx_istore (lv' := [(5, .int 0), (4, .int (v1 (h1 + 10) (Int32.toNatClampNeg x2))), (0, .ref (ad 49)), (1, .ref (ad h1)), (2, .int x2), (3, .ref (ad h3))]) E dX0_pay_17 (by decide) rfl ?_
  refine jx_iconst (x := 1) E dX0_pay_19 (by decide) ?_
  refine jx_istore (lv' := [(6, .int 1), (5, .int 0), (4, .int (v1 (h1 + 10) (Int32.toNatClampNeg x2))), (0, .ref (ad 49)), (1, .ref (ad h1)), (2, .int x2), (3, .ref (ad h3))]) E dX0_pay_20 (by decide) rfl ?_
  refine jx_sub [3, 4, 5, 6, 2, 1, 0] rfl ?_
  exact (key 100000) x2 (v1 (h1 + 10) (Int32.toNatClampNeg x2)) 0 1 v1 hF
def f_X0_payAll_L (h1 : Nat) : Nat → Int32 → Int32 → jx_V → Option (Int32 × jx_V)
  | 0, _, _, _ => none
  | n + 1, x2, x3, v => (if (v h1 5) ≤ x3 then (some (x2, v)) else ((f_X0_pay h1 x3 (h1 + 14) v).bind (fun (r2, v2) => (f_X0_payAll_L h1 n (x2 + r2) (x3 + 1) v2))))
def f_X0_payAll (h1 : Nat) (v : jx_V) : Option (Int32 × jx_V) := (f_X0_payAll_L h1 100000 0 0 v)
def rm_X0_payAll : Room := { frames := 4, cells := 0, slots := 0, locals := 101 }
set_option maxHeartbeats 4000000 in
set_option maxRecDepth 100000 in
theorem k_X0_payAll {l : Launch} {D : va_G} {cI cJ : ClassId} {ad : Nat → Nat} {A : Nat → Prop} {adK adV : Nat → Nat} (hI : jx_inj 67 ad A) (h1 : Nat) (hT1 : jx_T h1) (v : jx_V) (r : Int32) (v' : jx_V) (hF : f_X0_payAll h1 v = some (r, v')) : jx_Ci l D vwCl 67 cI cJ ad shX A (ex_X adK adV A) yX0_payAll (Cond.code yX0_payAll cX0_payAll 4 (some .int) :: bigT) rm_X0_payAll [.ref (ad 49), .ref (ad h1)] v r v' := by
  unfold f_X0_payAll at hF
  refine jx_enteri bigT RX0 cX0_payAll 4 (some .int) [(0, .ref (ad 49)), (1, .ref (ad h1))] hI (ex_X_ok adK adV A) (by decide +kernel) rfl (Nat.le_of_ble_eq_true rfl) rfl rfl ?_
  intro p e s m args below meth c E
  have iX3 : ∀ w ∈ u_ws RX3 TX3 8, w ∈ (Cond.code yX0_payAll cX0_payAll 4 (some .int) :: bigT) := fun w h => List.mem_cons_of_mem _ (uw_X3 w h)
  have key : ∀ n : Nat, (∀ (x2 : Int32) (x3 : Int32) (v : jx_V), f_X0_payAll_L h1 n  x2 x3 v = some (r, v') → jx_J p l e rm_X0_payAll s m args below meth c D vwCl 67 cI cJ ad shX A 0 0 4 (MQ below (va_Qi (fun (r1 : Int32) (_ : Unit) => r1 = r) (fun _ t => va_P D vwCl (jx_ws 67 cI cJ ad shX v') t.heap) A) args s 0 0 A) v 4 [(0, .ref (ad 49)), (1, .ref (ad h1)), (2, .int x2), (3, .int x3)] []) := by
    intro n
    induction n with
    | zero =>
      exact (fun _ _ _ h => by cases h)
    | succ n ih =>
      intro x2 x3 v hF
      rw [f_X0_payAll_L] at hF
      refine jx_iload_n E dX0_payAll_4 3 rfl ?_
      refine jx_aload_n E dX0_payAll_5 1 rfl ?_
      refine jx_getiN (C := RX3) (T := TX3) (M := 8) (k := 5) E dX0_payAll_6 (n_T0 hT1) (s_T0 hT1) rfl iX3 (by decide) rfl (ex_f11 (jx_ex E)) rfl ?_
      refine jx_icmp_ge (tgt := 31) E dX0_payAll_9 (by decide) (fun hc1 => ?_) (fun hc1 => ?_)
      · rw [if_pos hc1] at hF
        refine jx_iload_n E dX0_payAll_31 2 rfl ?_
        obtain ⟨rfl, rfl⟩ := jx_out hF
        exact jx_iret E dX0_payAll_32 rfl
      · rw [if_neg hc1] at hF
        refine jx_iload_n E dX0_payAll_12 2 rfl ?_
        refine jx_aload_n E dX0_payAll_13 0 rfl ?_
        refine jx_aload_n E dX0_payAll_14 1 rfl ?_
        refine jx_iload_n E dX0_payAll_15 3 rfl ?_
        refine jx_aload_n E dX0_payAll_16 1 rfl ?_
        refine jx_getrN (C := RX3) (T := TX3) (M := 8) (k := 3) E dX0_payAll_17 (n_T0 hT1) (s_T0 hT1) rfl iX3 (by decide) rfl (ex_f7 (jx_ex E)) rfl ?_
        obtain ⟨⟨r2, v2⟩, hc2, hF⟩ := jx_bind hF
        try dsimp only at hF
        refine jx_callVi (As := [.ref (ad h1), .int x3, .ref (ad (h1 + 14))]) (st := [.int x2]) (h := 49) E dX0_payAll_20 3 rfl (k_X0_pay hI h1 hT1 x3 (h1 + 14) (s_T14 hT1) (n_T14 hT1) v r2 v2 hc2) (gb_V (List.mem_cons_of_mem _ tw_78) (List.mem_cons_of_mem _ tw_79) (List.mem_cons_of_mem _ tw_80) (List.mem_cons_of_mem _ tw_49) tw_77) rfl rfl rfl dd_X0_pay rfl (Nat.le_of_ble_eq_true rfl) s_X49 rfl ⟨by decide, by decide⟩ ⟨Nat.le_refl 0, Nat.le_refl 0⟩ (Nat.le_of_ble_eq_true rfl) ?_
        refine jx_iadd E dX0_payAll_23 ?_
        refine jx_istore_n (lv' := [(2, .int (x2 + r2)), (0, .ref (ad 49)), (1, .ref (ad h1)), (3, .int x3)]) E dX0_payAll_24 (by decide) rfl ?_
        refine jx_iinc (y := (x3 + 1)) (lv' := [(3, .int (x3 + 1)), (2, .int (x2 + r2)), (0, .ref (ad 49)), (1, .ref (ad h1))]) E dX0_payAll_25 3 rfl rfl (by decide) rfl ?_
        refine jx_goto (tgt := 4) E dX0_payAll_28 (by decide) ?_
        refine jx_sub [2, 3, 1, 0] rfl ?_
        exact ih (x2 + r2) (x3 + 1) v2 hF
  refine jx_iconst (x := 0) E dX0_payAll_0 (by decide) ?_
  refine jx_istore_n (lv' := [(2, .int 0), (0, .ref (ad 49)), (1, .ref (ad h1))]) E dX0_payAll_1 (by decide) rfl ?_
  refine jx_iconst (x := 0) E dX0_payAll_2 (by decide) ?_
  refine jx_istore_n (lv' := [(3, .int 0), (2, .int 0), (0, .ref (ad 49)), (1, .ref (ad h1))]) E dX0_payAll_3 (by decide) rfl ?_
  refine jx_sub [2, 3, 1, 0] rfl ?_
  exact (key 100000) 0 0 v hF
def f_X0_gainsInto_L (h1 : Nat) (h2 : Nat) : Nat → Nat → Int32 → Int32 → jx_V → Option (Int32 × jx_V)
  | 0, _, _, _, _ => none
  | n + 1, tag, x3, x4, v => (if tag = 0 then (if 4 ≤ x3 then (f_X0_gainsInto_L h1 h2 n 1 0 0 v) else (if (x3 < 0 ∨ 4 ≤ Int32.toNatClampNeg x3) then none else (f_X0_gainsInto_L h1 h2 n 0 (x3 + 1) 0 (jx_up v h2 (Int32.toNatClampNeg x3) 0)))) else (if tag = 1 then (if (v h1 5) ≤ x4 then (some (x3, v)) else ((f_X0_pay h1 x4 h2 v).bind (fun (r4, v4) => (f_X0_gainsInto_L h1 h2 n 1 (x3 + r4) (x4 + 1) v4)))) else none))
def f_X0_gainsInto (h1 : Nat) (h2 : Nat) (v : jx_V) : Option (Int32 × jx_V) := (f_X0_gainsInto_L h1 h2 100000 0 0 0 v)
def rm_X0_gainsInto : Room := { frames := 4, cells := 0, slots := 0, locals := 101 }
set_option maxHeartbeats 4000000 in
set_option maxRecDepth 100000 in
theorem k_X0_gainsInto {l : Launch} {D : va_G} {cI cJ : ClassId} {ad : Nat → Nat} {A : Nat → Prop} {adK adV : Nat → Nat} (hI : jx_inj 67 ad A) (h1 : Nat) (hT1 : jx_T h1) (h2 : Nat) (hS2 : shX h2 = .inl 4) (hN2 : h2 < 67) (v : jx_V) (r : Int32) (v' : jx_V) (hF : f_X0_gainsInto h1 h2 v = some (r, v')) : jx_Ci l D vwCl 67 cI cJ ad shX A (ex_X adK adV A) yX0_gainsInto (Cond.code yX0_gainsInto cX0_gainsInto 5 (some .int) :: bigT) rm_X0_gainsInto [.ref (ad 49), .ref (ad h1), .ref (ad h2)] v r v' := by
  unfold f_X0_gainsInto at hF
  refine jx_enteri bigT RX0 cX0_gainsInto 5 (some .int) [(0, .ref (ad 49)), (1, .ref (ad h1)), (2, .ref (ad h2))] hI (ex_X_ok adK adV A) (by decide +kernel) rfl (Nat.le_of_ble_eq_true rfl) rfl rfl ?_
  intro p e s m args below meth c E
  have iX3 : ∀ w ∈ u_ws RX3 TX3 8, w ∈ (Cond.code yX0_gainsInto cX0_gainsInto 5 (some .int) :: bigT) := fun w h => List.mem_cons_of_mem _ (uw_X3 w h)
  have key : ∀ n : Nat, (∀ (x3 : Int32) (v : jx_V), f_X0_gainsInto_L h1 h2 n 0 x3 0 v = some (r, v') → jx_J p l e rm_X0_gainsInto s m args below meth c D vwCl 67 cI cJ ad shX A 0 0 5 (MQ below (va_Qi (fun (r1 : Int32) (_ : Unit) => r1 = r) (fun _ t => va_P D vwCl (jx_ws 67 cI cJ ad shX v') t.heap) A) args s 0 0 A) v 2 [(0, .ref (ad 49)), (1, .ref (ad h1)), (2, .ref (ad h2)), (3, .int x3)] []) ∧ (∀ (x3 : Int32) (x4 : Int32) (v : jx_V), f_X0_gainsInto_L h1 h2 n 1 x3 x4 v = some (r, v') → jx_J p l e rm_X0_gainsInto s m args below meth c D vwCl 67 cI cJ ad shX A 0 0 5 (MQ below (va_Qi (fun (r1 : Int32) (_ : Unit) => r1 = r) (fun _ t => va_P D vwCl (jx_ws 67 cI cJ ad shX v') t.heap) A) args s 0 0 A) v 22 [(0, .ref (ad 49)), (1, .ref (ad h1)), (2, .ref (ad h2)), (3, .int x3), (4, .int x4)] []) := by
    intro n
    induction n with
    | zero =>
      exact ⟨(fun _ _ h => by cases h), (fun _ _ _ h => by cases h)⟩
    | succ n ih =>
      refine ⟨?_, ?_⟩
      · intro x3 v hF
        rw [f_X0_gainsInto_L] at hF
        rw [if_pos rfl] at hF
        refine jx_iload_n E dX0_gainsInto_2 3 rfl ?_
        refine jx_iconst (x := 4) E dX0_gainsInto_3 (by decide) ?_
        refine jx_icmp_ge (tgt := 17) E dX0_gainsInto_4 (by decide) (fun hc1 => ?_) (fun hc1 => ?_)
        · rw [if_pos hc1] at hF
          refine jx_iconst (x := 0) E dX0_gainsInto_17 (by decide) ?_
          refine jx_istore_n (lv' := [(3, .int 0), (0, .ref (ad 49)), (1, .ref (ad h1)), (2, .ref (ad h2))]) E dX0_gainsInto_18 (by decide) rfl ?_
          refine jx_iconst (x := 0) E dX0_gainsInto_19 (by decide) ?_
          refine jx_istore (lv' := [(4, .int 0), (3, .int 0), (0, .ref (ad 49)), (1, .ref (ad h1)), (2, .ref (ad h2))]) E dX0_gainsInto_20 (by decide) rfl ?_
          refine jx_sub [2, 3, 4, 1, 0] rfl ?_
          exact ih.2 0 0 v hF
        · rw [if_neg hc1] at hF
          refine jx_aload_n E dX0_gainsInto_7 2 rfl ?_
          refine jx_iload_n E dX0_gainsInto_8 3 rfl ?_
          refine jx_iconst (x := 0) E dX0_gainsInto_9 (by decide) ?_
          obtain ⟨hg2, hF⟩ := jx_guard hF
          refine jx_iast (h := h2) (j := (Int32.toNatClampNeg x3)) E dX0_gainsInto_10 hN2 hS2 hg2 rfl ?_
          refine jx_iinc (y := (x3 + 1)) (lv' := [(3, .int (x3 + 1)), (0, .ref (ad 49)), (1, .ref (ad h1)), (2, .ref (ad h2))]) E dX0_gainsInto_11 3 rfl rfl (by decide) rfl ?_
          refine jx_goto (tgt := 2) E dX0_gainsInto_14 (by decide) ?_
          refine jx_sub [1, 2, 3, 0] rfl ?_
          exact ih.1 (x3 + 1) (jx_up v h2 (Int32.toNatClampNeg x3) 0) hF
      · intro x3 x4 v hF
        rw [f_X0_gainsInto_L] at hF
        rw [if_neg (by decide), if_pos rfl] at hF
        refine jx_iload E dX0_gainsInto_22 4 rfl ?_
        refine jx_aload_n E dX0_gainsInto_24 1 rfl ?_
        refine jx_getiN (C := RX3) (T := TX3) (M := 8) (k := 5) E dX0_gainsInto_25 (n_T0 hT1) (s_T0 hT1) rfl iX3 (by decide) rfl (ex_f11 (jx_ex E)) rfl ?_
        refine jx_icmp_ge (tgt := 48) E dX0_gainsInto_28 (by decide) (fun hc3 => ?_) (fun hc3 => ?_)
        · rw [if_pos hc3] at hF
          refine jx_iload_n E dX0_gainsInto_48 3 rfl ?_
          obtain ⟨rfl, rfl⟩ := jx_out hF
          exact jx_iret E dX0_gainsInto_49 rfl
        · rw [if_neg hc3] at hF
          refine jx_iload_n E dX0_gainsInto_31 3 rfl ?_
          refine jx_aload_n E dX0_gainsInto_32 0 rfl ?_
          refine jx_aload_n E dX0_gainsInto_33 1 rfl ?_
          refine jx_iload E dX0_gainsInto_34 4 rfl ?_
          refine jx_aload_n E dX0_gainsInto_36 2 rfl ?_
          obtain ⟨⟨r4, v4⟩, hc4, hF⟩ := jx_bind hF
          try dsimp only at hF
          refine jx_callVi (As := [.ref (ad h1), .int x4, .ref (ad h2)]) (st := [.int x3]) (h := 49) E dX0_gainsInto_37 3 rfl (k_X0_pay hI h1 hT1 x4 h2 hS2 hN2 v r4 v4 hc4) (gb_V (List.mem_cons_of_mem _ tw_78) (List.mem_cons_of_mem _ tw_79) (List.mem_cons_of_mem _ tw_80) (List.mem_cons_of_mem _ tw_49) tw_77) rfl rfl rfl dd_X0_pay rfl (Nat.le_of_ble_eq_true rfl) s_X49 rfl ⟨by decide, by decide⟩ ⟨Nat.le_refl 0, Nat.le_refl 0⟩ (Nat.le_of_ble_eq_true rfl) ?_
          refine jx_iadd E dX0_gainsInto_40 ?_
          refine jx_istore_n (lv' := [(3, .int (x3 + r4)), (0, .ref (ad 49)), (1, .ref (ad h1)), (2, .ref (ad h2)), (4, .int x4)]) E dX0_gainsInto_41 (by decide) rfl ?_
          refine jx_iinc (y := (x4 + 1)) (lv' := [(4, .int (x4 + 1)), (3, .int (x3 + r4)), (0, .ref (ad 49)), (1, .ref (ad h1)), (2, .ref (ad h2))]) E dX0_gainsInto_42 4 rfl rfl (by decide) rfl ?_
          refine jx_goto (tgt := 22) E dX0_gainsInto_45 (by decide) ?_
          refine jx_sub [2, 3, 4, 1, 0] rfl ?_
          exact ih.2 (x3 + r4) (x4 + 1) v4 hF
  refine jx_iconst (x := 0) E dX0_gainsInto_0 (by decide) ?_
  refine jx_istore_n (lv' := [(3, .int 0), (0, .ref (ad 49)), (1, .ref (ad h1)), (2, .ref (ad h2))]) E dX0_gainsInto_1 (by decide) rfl ?_
  refine jx_sub [1, 2, 3, 0] rfl ?_
  exact (key 100000).1 0 v hF
def f_X0_isBroken (h1 : Nat) (x2 : Int32) (v : jx_V) : Option (Int32 × jx_V) := (if (x2 < 0 ∨ 10 ≤ Int32.toNatClampNeg x2) then none else (if (v (h1 + 11) (Int32.toNatClampNeg x2)) < 0 then (some (0, v)) else ((f_X0_squaresOfOwner h1 x2 (v (h1 + 11) (Int32.toNatClampNeg x2)) v).bind (fun (r3, v3) => (if (x2 < 0 ∨ 10 ≤ Int32.toNatClampNeg x2) then none else (if (v3 (h1 + 12) (Int32.toNatClampNeg x2)) ≤ r3 then (some (0, v3)) else (some (1, v3))))))))
def rm_X0_isBroken : Room := { frames := 4, cells := 0, slots := 0, locals := 98 }
set_option maxHeartbeats 4000000 in
set_option maxRecDepth 100000 in
theorem k_X0_isBroken {l : Launch} {D : va_G} {cI cJ : ClassId} {ad : Nat → Nat} {A : Nat → Prop} {adK adV : Nat → Nat} (hI : jx_inj 67 ad A) (h1 : Nat) (hT1 : jx_T h1) (x2 : Int32) (v : jx_V) (r : Int32) (v' : jx_V) (hF : f_X0_isBroken h1 x2 v = some (r, v')) : jx_Ci l D vwCl 67 cI cJ ad shX A (ex_X adK adV A) yX0_isBroken (Cond.code yX0_isBroken cX0_isBroken 4 (some .boolean) :: bigT) rm_X0_isBroken [.ref (ad 49), .ref (ad h1), .int x2] v r v' := by
  unfold f_X0_isBroken at hF
  refine jx_enteri bigT RX0 cX0_isBroken 4 (some .boolean) [(0, .ref (ad 49)), (1, .ref (ad h1)), (2, .int x2)] hI (ex_X_ok adK adV A) (by decide +kernel) rfl (Nat.le_of_ble_eq_true rfl) rfl rfl ?_
  intro p e s m args below meth c E
  have iX3 : ∀ w ∈ u_ws RX3 TX3 8, w ∈ (Cond.code yX0_isBroken cX0_isBroken 4 (some .boolean) :: bigT) := fun w h => List.mem_cons_of_mem _ (uw_X3 w h)
  refine jx_aload_n E dX0_isBroken_0 1 rfl ?_
  refine jx_getrN (C := RX3) (T := TX3) (M := 8) (k := 1) E dX0_isBroken_1 (n_T0 hT1) (s_T0 hT1) rfl iX3 (by decide) rfl (ex_f2 (jx_ex E)) rfl ?_
  refine jx_iconst (x := 4) E dX0_isBroken_4 (by decide) ?_
  refine jx_aald (h' := (h1 + 11)) E dX0_isBroken_5 (n_T2 hT1) (s_T2 hT1) (show ¬ ((4 : Int32) < 0 ∨ 6 ≤ Int32.toNatClampNeg 4) by decide) rfl ?_
  refine jx_iload_n E dX0_isBroken_6 2 rfl ?_
  obtain ⟨hg1, hF⟩ := jx_guard hF
  refine jx_iald (h := (h1 + 11)) (j := (Int32.toNatClampNeg x2)) E dX0_isBroken_7 (n_T11 hT1) (s_T11 hT1) hg1 rfl ?_
  refine jx_istore_n (lv' := [(3, .int (v (h1 + 11) (Int32.toNatClampNeg x2))), (0, .ref (ad 49)), (1, .ref (ad h1)), (2, .int x2)]) E dX0_isBroken_8 (by decide) rfl ?_
  refine jx_iload_n E dX0_isBroken_9 0 rfl ?_
  refine jx_if_lt (tgt := 35) E dX0_isBroken_10 (by decide) (fun hc2 => ?_) (fun hc2 => ?_)
  · rw [if_pos hc2] at hF
    refine jx_iconst (x := 0) E dX0_isBroken_35 (by decide) ?_
    obtain ⟨rfl, rfl⟩ := jx_out hF
    exact jx_zret E dX0_isBroken_36 rfl (Or.inl rfl)
  · rw [if_neg hc2] at hF
    refine jx_aload_n E dX0_isBroken_13 1 rfl ?_
    refine jx_aload_n E dX0_isBroken_14 2 rfl ?_
    refine jx_iload_n E dX0_isBroken_15 3 rfl ?_
    refine jx_iload_n E dX0_isBroken_16 0 rfl ?_
    obtain ⟨⟨r3, v3⟩, hc3, hF⟩ := jx_bind hF
    try dsimp only at hF
    refine jx_callVi (As := [.ref (ad h1), .int x2, .int (v (h1 + 11) (Int32.toNatClampNeg x2))]) (st := []) (h := 49) E dX0_isBroken_17 3 rfl (k_X0_squaresOfOwner hI h1 hT1 x2 (v (h1 + 11) (Int32.toNatClampNeg x2)) v r3 v3 hc3) (gb_V (List.mem_cons_of_mem _ tw_82) (List.mem_cons_of_mem _ tw_83) (List.mem_cons_of_mem _ tw_84) (List.mem_cons_of_mem _ tw_49) tw_81) rfl rfl rfl dd_X0_squaresOfOwner rfl (Nat.le_of_ble_eq_true rfl) s_X49 rfl ⟨by decide, by decide⟩ ⟨Nat.le_refl 0, Nat.le_refl 0⟩ (Nat.le_of_ble_eq_true rfl) ?_
    refine jx_aload_n E dX0_isBroken_20 2 rfl ?_
    refine jx_getrN (C := RX3) (T := TX3) (M := 8) (k := 1) E dX0_isBroken_21 (n_T0 hT1) (s_T0 hT1) rfl iX3 (by decide) rfl (ex_f2 (jx_ex E)) rfl ?_
    refine jx_iconst (x := 5) E dX0_isBroken_24 (by decide) ?_
    refine jx_aald (h' := (h1 + 12)) E dX0_isBroken_25 (n_T2 hT1) (s_T2 hT1) (show ¬ ((5 : Int32) < 0 ∨ 6 ≤ Int32.toNatClampNeg 5) by decide) rfl ?_
    refine jx_iload_n E dX0_isBroken_26 3 rfl ?_
    obtain ⟨hg4, hF⟩ := jx_guard hF
    refine jx_iald (h := (h1 + 12)) (j := (Int32.toNatClampNeg x2)) E dX0_isBroken_27 (n_T12 hT1) (s_T12 hT1) hg4 rfl ?_
    refine jx_icmp_ge (tgt := 35) E dX0_isBroken_28 (by decide) (fun hc5 => ?_) (fun hc5 => ?_)
    · rw [if_pos hc5] at hF
      refine jx_iconst (x := 0) E dX0_isBroken_35 (by decide) ?_
      obtain ⟨rfl, rfl⟩ := jx_out hF
      exact jx_zret E dX0_isBroken_36 rfl (Or.inl rfl)
    · rw [if_neg hc5] at hF
      refine jx_iconst (x := 1) E dX0_isBroken_31 (by decide) ?_
      refine jx_goto (tgt := 36) E dX0_isBroken_32 (by decide) ?_
      obtain ⟨rfl, rfl⟩ := jx_out hF
      exact jx_zret E dX0_isBroken_36 rfl (Or.inr rfl)
def f_X0_brokenSet_L (h1 : Nat) : Nat → Int32 → Int32 → jx_V → Option (Int32 × jx_V)
  | 0, _, _, _ => none
  | n + 1, x2, x3, v => (if (v h1 5) ≤ x3 then (some (x2, v)) else ((f_X0_isBroken h1 x3 v).bind (fun (r2, v2) => (if r2 = 0 then (f_X0_brokenSet_L h1 n x2 (x3 + 1) v2) else (f_X0_brokenSet_L h1 n (x2 ||| (1 <<< (x3 &&& 31))) (x3 + 1) v2)))))
def f_X0_brokenSet (h1 : Nat) (v : jx_V) : Option (Int32 × jx_V) := (f_X0_brokenSet_L h1 100000 0 0 v)
def rm_X0_brokenSet : Room := { frames := 5, cells := 0, slots := 0, locals := 121 }
set_option maxHeartbeats 4000000 in
set_option maxRecDepth 100000 in
theorem k_X0_brokenSet {l : Launch} {D : va_G} {cI cJ : ClassId} {ad : Nat → Nat} {A : Nat → Prop} {adK adV : Nat → Nat} (hI : jx_inj 67 ad A) (h1 : Nat) (hT1 : jx_T h1) (v : jx_V) (r : Int32) (v' : jx_V) (hF : f_X0_brokenSet h1 v = some (r, v')) : jx_Ci l D vwCl 67 cI cJ ad shX A (ex_X adK adV A) yX0_brokenSet (Cond.code yX0_brokenSet cX0_brokenSet 4 (some .int) :: bigT) rm_X0_brokenSet [.ref (ad 49), .ref (ad h1)] v r v' := by
  unfold f_X0_brokenSet at hF
  refine jx_enteri bigT RX0 cX0_brokenSet 4 (some .int) [(0, .ref (ad 49)), (1, .ref (ad h1))] hI (ex_X_ok adK adV A) (by decide +kernel) rfl (Nat.le_of_ble_eq_true rfl) rfl rfl ?_
  intro p e s m args below meth c E
  have iX3 : ∀ w ∈ u_ws RX3 TX3 8, w ∈ (Cond.code yX0_brokenSet cX0_brokenSet 4 (some .int) :: bigT) := fun w h => List.mem_cons_of_mem _ (uw_X3 w h)
  have key : ∀ n : Nat, (∀ (x2 : Int32) (x3 : Int32) (v : jx_V), f_X0_brokenSet_L h1 n  x2 x3 v = some (r, v') → jx_J p l e rm_X0_brokenSet s m args below meth c D vwCl 67 cI cJ ad shX A 0 0 4 (MQ below (va_Qi (fun (r1 : Int32) (_ : Unit) => r1 = r) (fun _ t => va_P D vwCl (jx_ws 67 cI cJ ad shX v') t.heap) A) args s 0 0 A) v 4 [(0, .ref (ad 49)), (1, .ref (ad h1)), (2, .int x2), (3, .int x3)] []) := by
    intro n
    induction n with
    | zero =>
      exact (fun _ _ _ h => by cases h)
    | succ n ih =>
      intro x2 x3 v hF
      rw [f_X0_brokenSet_L] at hF
      refine jx_iload_n E dX0_brokenSet_4 3 rfl ?_
      refine jx_aload_n E dX0_brokenSet_5 1 rfl ?_
      refine jx_getiN (C := RX3) (T := TX3) (M := 8) (k := 5) E dX0_brokenSet_6 (n_T0 hT1) (s_T0 hT1) rfl iX3 (by decide) rfl (ex_f11 (jx_ex E)) rfl ?_
      refine jx_icmp_ge (tgt := 33) E dX0_brokenSet_9 (by decide) (fun hc1 => ?_) (fun hc1 => ?_)
      · rw [if_pos hc1] at hF
        refine jx_iload_n E dX0_brokenSet_33 2 rfl ?_
        obtain ⟨rfl, rfl⟩ := jx_out hF
        exact jx_iret E dX0_brokenSet_34 rfl
      · rw [if_neg hc1] at hF
        refine jx_aload_n E dX0_brokenSet_12 0 rfl ?_
        refine jx_aload_n E dX0_brokenSet_13 1 rfl ?_
        refine jx_iload_n E dX0_brokenSet_14 3 rfl ?_
        obtain ⟨⟨r2, v2⟩, hc2, hF⟩ := jx_bind hF
        try dsimp only at hF
        refine jx_callVi (As := [.ref (ad h1), .int x3]) (st := []) (h := 49) E dX0_brokenSet_15 2 rfl (k_X0_isBroken hI h1 hT1 x3 v r2 v2 hc2) (gb_V (List.mem_cons_of_mem _ tw_86) (List.mem_cons_of_mem _ tw_87) (List.mem_cons_of_mem _ tw_88) (List.mem_cons_of_mem _ tw_49) tw_85) rfl rfl rfl dd_X0_isBroken rfl (Nat.le_of_ble_eq_true rfl) s_X49 rfl ⟨by decide, by decide⟩ ⟨Nat.le_refl 0, Nat.le_refl 0⟩ (Nat.le_of_ble_eq_true rfl) ?_
        refine jx_if_eq (tgt := 27) E dX0_brokenSet_18 (by decide) (fun hc3 => ?_) (fun hc3 => ?_)
        · rw [if_pos hc3] at hF
          refine jx_iinc (y := (x3 + 1)) (lv' := [(3, .int (x3 + 1)), (0, .ref (ad 49)), (1, .ref (ad h1)), (2, .int x2)]) E dX0_brokenSet_27 3 rfl rfl (by decide) rfl ?_
          refine jx_goto (tgt := 4) E dX0_brokenSet_30 (by decide) ?_
          refine jx_sub [1, 2, 3, 0] rfl ?_
          exact ih x2 (x3 + 1) v2 hF
        · rw [if_neg hc3] at hF
          refine jx_iload_n E dX0_brokenSet_21 2 rfl ?_
          refine jx_iconst (x := 1) E dX0_brokenSet_22 (by decide) ?_
          refine jx_iload_n E dX0_brokenSet_23 3 rfl ?_
          refine jx_ishl E dX0_brokenSet_24 ?_
          refine jx_ior E dX0_brokenSet_25 ?_
          refine jx_istore_n (lv' := [(2, .int (x2 ||| (1 <<< (x3 &&& 31)))), (0, .ref (ad 49)), (1, .ref (ad h1)), (3, .int x3)]) E dX0_brokenSet_26 (by decide) rfl ?_
          refine jx_iinc (y := (x3 + 1)) (lv' := [(3, .int (x3 + 1)), (2, .int (x2 ||| (1 <<< (x3 &&& 31)))), (0, .ref (ad 49)), (1, .ref (ad h1))]) E dX0_brokenSet_27 3 rfl rfl (by decide) rfl ?_
          refine jx_goto (tgt := 4) E dX0_brokenSet_30 (by decide) ?_
          refine jx_sub [2, 3, 1, 0] rfl ?_
          exact ih (x2 ||| (1 <<< (x3 &&& 31))) (x3 + 1) v2 hF
  refine jx_iconst (x := 0) E dX0_brokenSet_0 (by decide) ?_
  refine jx_istore_n (lv' := [(2, .int 0), (0, .ref (ad 49)), (1, .ref (ad h1))]) E dX0_brokenSet_1 (by decide) rfl ?_
  refine jx_iconst (x := 0) E dX0_brokenSet_2 (by decide) ?_
  refine jx_istore_n (lv' := [(3, .int 0), (2, .int 0), (0, .ref (ad 49)), (1, .ref (ad h1))]) E dX0_brokenSet_3 (by decide) rfl ?_
  refine jx_sub [2, 3, 1, 0] rfl ?_
  exact (key 100000) 0 0 v hF
def f_X1_isMissing (x1 : Int32) (v : jx_V) : Option (Int32 × jx_V) := (if (x1 < 0 ∨ 4 ≤ Int32.toNatClampNeg x1) then none else (if (v 61 (Int32.toNatClampNeg x1)) = 0 then (some (1, v)) else (some (0, v))))
def rm_X1_isMissing : Room := { frames := 0, cells := 0, slots := 0, locals := 0 }
set_option maxHeartbeats 4000000 in
set_option maxRecDepth 100000 in
theorem k_X1_isMissing {l : Launch} {D : va_G} {cI cJ : ClassId} {ad : Nat → Nat} {A : Nat → Prop} {adK adV : Nat → Nat} (hI : jx_inj 67 ad A) (x1 : Int32) (v : jx_V) (r : Int32) (v' : jx_V) (hF : f_X1_isMissing x1 v = some (r, v')) : jx_Ci l D vwCl 67 cI cJ ad shX A (ex_X adK adV A) yX1_isMissing (Cond.code yX1_isMissing cX1_isMissing 2 (some .boolean) :: bigT) rm_X1_isMissing [.ref (ad 55), .int x1] v r v' := by
  unfold f_X1_isMissing at hF
  refine jx_enteri bigT RX1 cX1_isMissing 2 (some .boolean) [(0, .ref (ad 55)), (1, .int x1)] hI (ex_X_ok adK adV A) (by decide +kernel) rfl (Nat.le_of_ble_eq_true rfl) rfl rfl ?_
  intro p e s m args below meth c E
  have iX1 : ∀ w ∈ u_ws RX1 TX1 3, w ∈ (Cond.code yX1_isMissing cX1_isMissing 2 (some .boolean) :: bigT) := fun w h => List.mem_cons_of_mem _ (uw_X1 w h)
  refine jx_aload_n E dX1_isMissing_0 0 rfl ?_
  refine jx_getr (C := RX1) (T := TX1) (M := 3) (k := 1) E dX1_isMissing_1 (Nat.le_of_ble_eq_true rfl) s_X55 rfl iX1 (by decide) rfl (List.mem_cons_of_mem _ tw_89) rfl ?_
  refine jx_iload_n E dX1_isMissing_4 1 rfl ?_
  obtain ⟨hg1, hF⟩ := jx_guard hF
  refine jx_iald (h := 61) (j := (Int32.toNatClampNeg x1)) E dX1_isMissing_5 (Nat.le_of_ble_eq_true rfl) s_X61 hg1 rfl ?_
  refine jx_if_ne (tgt := 13) E dX1_isMissing_6 (by decide) (fun hc2 => ?_) (fun hc2 => ?_)
  · rw [if_neg hc2] at hF
    refine jx_iconst (x := 0) E dX1_isMissing_13 (by decide) ?_
    obtain ⟨rfl, rfl⟩ := jx_out hF
    exact jx_zret E dX1_isMissing_14 rfl (Or.inl rfl)
  · rw [if_pos hc2] at hF
    refine jx_iconst (x := 1) E dX1_isMissing_9 (by decide) ?_
    refine jx_goto (tgt := 14) E dX1_isMissing_10 (by decide) ?_
    obtain ⟨rfl, rfl⟩ := jx_out hF
    exact jx_zret E dX1_isMissing_14 rfl (Or.inr rfl)
def f_X1_begin_L  : Nat → Int32 → Int32 → Int32 → Int32 → jx_V → Option (jx_V)
  | 0, _, _, _, _, _ => none
  | n + 1, x1, x2, x3, x4, v => (if 40 ≤ x4 then (some v) else (if (x1 < 0 ∨ 4 ≤ (x1).toNatClampNeg) then none else (if (x4 < 0 ∨ 40 ≤ Int32.toNatClampNeg x4) then none else (f_X1_begin_L n x1 x2 x3 (x4 + 1) (jx_up v (57 + (x1).toNatClampNeg) (Int32.toNatClampNeg x4) 0)))))
def f_X1_begin (x1 : Int32) (x2 : Int32) (x3 : Int32) (v : jx_V) : Option (jx_V) := (if (x1 < 0 ∨ 4 ≤ Int32.toNatClampNeg x1) then none else (if x2 = 0 then (if (x1 < 0 ∨ 4 ≤ Int32.toNatClampNeg x1) then none else (f_X1_begin_L 100000 x1 x2 x3 0 (jx_up (jx_up v 61 (Int32.toNatClampNeg x1) x2) 62 (Int32.toNatClampNeg x1) 0))) else (if (x1 < 0 ∨ 4 ≤ Int32.toNatClampNeg x1) then none else (f_X1_begin_L 100000 x1 x2 x3 0 (jx_up (jx_up v 61 (Int32.toNatClampNeg x1) x2) 62 (Int32.toNatClampNeg x1) x3)))))
def rm_X1_begin : Room := { frames := 0, cells := 0, slots := 0, locals := 0 }
set_option maxHeartbeats 4000000 in
set_option maxRecDepth 100000 in
theorem k_X1_begin {l : Launch} {D : va_G} {cI cJ : ClassId} {ad : Nat → Nat} {A : Nat → Prop} {adK adV : Nat → Nat} (hI : jx_inj 67 ad A) (x1 : Int32) (x2 : Int32) (x3 : Int32) (v : jx_V) (v' : jx_V) (hF : f_X1_begin x1 x2 x3 v = some v') : jx_Cv l D vwCl 67 cI cJ ad shX A (ex_X adK adV A) yX1_begin (Cond.code yX1_begin cX1_begin 5 (none) :: bigT) rm_X1_begin [.ref (ad 55), .int x1, .int x2, .int x3] v v' := by
  unfold f_X1_begin at hF
  refine jx_enterv bigT RX1 cX1_begin 5 (none) [(0, .ref (ad 55)), (1, .int x1), (2, .int x2), (3, .int x3)] hI (ex_X_ok adK adV A) (by decide +kernel) rfl (Nat.le_of_ble_eq_true rfl) rfl rfl ?_
  intro p e s m args below meth c E
  have iX1 : ∀ w ∈ u_ws RX1 TX1 3, w ∈ (Cond.code yX1_begin cX1_begin 5 (none) :: bigT) := fun w h => List.mem_cons_of_mem _ (uw_X1 w h)
  have key : ∀ n : Nat, (∀ (x1 : Int32) (x2 : Int32) (x3 : Int32) (x4 : Int32) (v : jx_V), f_X1_begin_L  n  x1 x2 x3 x4 v = some v' → jx_J p l e rm_X1_begin s m args below meth c D vwCl 67 cI cJ ad shX A 0 0 5 (MQ below (va_Qv (fun (_ : Unit) => True) (fun _ t => va_P D vwCl (jx_ws 67 cI cJ ad shX v') t.heap) A) args s 0 0 A) v 25 [(0, .ref (ad 55)), (1, .int x1), (2, .int x2), (3, .int x3), (4, .int x4)] []) := by
    intro n
    induction n with
    | zero =>
      exact (fun _ _ _ _ _ h => by cases h)
    | succ n ih =>
      intro x1 x2 x3 x4 v hF
      rw [f_X1_begin_L] at hF
      refine jx_iload E dX1_begin_25 4 rfl ?_
      refine jx_bipush (x := 40) E dX1_begin_27 (by decide) ?_
      refine jx_icmp_ge (tgt := 48) E dX1_begin_29 (by decide) (fun hc5 => ?_) (fun hc5 => ?_)
      · rw [if_pos hc5] at hF
        obtain rfl := Option.some.inj hF
        exact jx_vret E dX1_begin_48 rfl
      · rw [if_neg hc5] at hF
        refine jx_aload_n E dX1_begin_32 0 rfl ?_
        refine jx_getr (C := RX1) (T := TX1) (M := 3) (k := 0) E dX1_begin_33 (Nat.le_of_ble_eq_true rfl) s_X55 rfl iX1 (by decide) rfl (List.mem_cons_of_mem _ tw_91) rfl ?_
        refine jx_iload_n E dX1_begin_36 1 rfl ?_
        obtain ⟨hg6, hF⟩ := jx_guard hF
        refine jx_aald (h' := (57 + (x1).toNatClampNeg)) E dX1_begin_37 (Nat.le_of_ble_eq_true rfl) s_X56 hg6 (l_Sr (l_lt hg6)) ?_
        refine jx_iload E dX1_begin_38 4 rfl ?_
        refine jx_iconst (x := 0) E dX1_begin_40 (by decide) ?_
        obtain ⟨hg7, hF⟩ := jx_guard hF
        refine jx_iast (h := (57 + (x1).toNatClampNeg)) (j := (Int32.toNatClampNeg x4)) E dX1_begin_41 (n_Sr (l_lt hg6)) (s_Sr (l_lt hg6)) hg7 rfl ?_
        refine jx_iinc (y := (x4 + 1)) (lv' := [(4, .int (x4 + 1)), (0, .ref (ad 55)), (1, .int x1), (2, .int x2), (3, .int x3)]) E dX1_begin_42 4 rfl rfl (by decide) rfl ?_
        refine jx_goto (tgt := 25) E dX1_begin_45 (by decide) ?_
        refine jx_sub [1, 2, 3, 4, 0] rfl ?_
        exact ih x1 x2 x3 (x4 + 1) (jx_up v (57 + (x1).toNatClampNeg) (Int32.toNatClampNeg x4) 0) hF
  refine jx_aload_n E dX1_begin_0 0 rfl ?_
  refine jx_getr (C := RX1) (T := TX1) (M := 3) (k := 1) E dX1_begin_1 (Nat.le_of_ble_eq_true rfl) s_X55 rfl iX1 (by decide) rfl (List.mem_cons_of_mem _ tw_89) rfl ?_
  refine jx_iload_n E dX1_begin_4 1 rfl ?_
  refine jx_iload_n E dX1_begin_5 2 rfl ?_
  obtain ⟨hg1, hF⟩ := jx_guard hF
  refine jx_iast (h := 61) (j := (Int32.toNatClampNeg x1)) E dX1_begin_6 (Nat.le_of_ble_eq_true rfl) s_X61 hg1 rfl ?_
  refine jx_aload_n E dX1_begin_7 0 rfl ?_
  refine jx_getr (C := RX1) (T := TX1) (M := 3) (k := 2) E dX1_begin_8 (Nat.le_of_ble_eq_true rfl) s_X55 rfl iX1 (by decide) rfl (List.mem_cons_of_mem _ tw_90) rfl ?_
  refine jx_iload_n E dX1_begin_11 1 rfl ?_
  refine jx_iload_n E dX1_begin_12 2 rfl ?_
  refine jx_if_ne (tgt := 20) E dX1_begin_13 (by decide) (fun hc2 => ?_) (fun hc2 => ?_)
  · rw [if_neg hc2] at hF
    refine jx_iload_n E dX1_begin_20 3 rfl ?_
    obtain ⟨hg3, hF⟩ := jx_guard hF
    refine jx_iast (h := 62) (j := (Int32.toNatClampNeg x1)) E dX1_begin_21 (Nat.le_of_ble_eq_true rfl) s_X62 hg3 rfl ?_
    refine jx_iconst (x := 0) E dX1_begin_22 (by decide) ?_
    refine jx_istore (lv' := [(4, .int 0), (0, .ref (ad 55)), (1, .int x1), (2, .int x2), (3, .int x3)]) E dX1_begin_23 (by decide) rfl ?_
    refine jx_sub [1, 2, 3, 4, 0] rfl ?_
    exact (key 100000) x1 x2 x3 0 (jx_up (jx_up v 61 (Int32.toNatClampNeg x1) x2) 62 (Int32.toNatClampNeg x1) x3) hF
  · rw [if_pos hc2] at hF
    refine jx_iconst (x := 0) E dX1_begin_16 (by decide) ?_
    refine jx_goto (tgt := 21) E dX1_begin_17 (by decide) ?_
    obtain ⟨hg4, hF⟩ := jx_guard hF
    refine jx_iast (h := 62) (j := (Int32.toNatClampNeg x1)) E dX1_begin_21 (Nat.le_of_ble_eq_true rfl) s_X62 hg4 rfl ?_
    refine jx_iconst (x := 0) E dX1_begin_22 (by decide) ?_
    refine jx_istore (lv' := [(4, .int 0), (0, .ref (ad 55)), (1, .int x1), (2, .int x2), (3, .int x3)]) E dX1_begin_23 (by decide) rfl ?_
    refine jx_sub [1, 2, 3, 4, 0] rfl ?_
    exact (key 100000) x1 x2 x3 0 (jx_up (jx_up v 61 (Int32.toNatClampNeg x1) x2) 62 (Int32.toNatClampNeg x1) 0) hF
def f_X1_store (x1 : Int32) (x2 : Int32) (x3 : Int32) (v : jx_V) : Option (jx_V) := (if (x1 < 0 ∨ 4 ≤ Int32.toNatClampNeg x1) then none else (if (v 61 (Int32.toNatClampNeg x1)) = 8 then (if (x1 < 0 ∨ 4 ≤ (x1).toNatClampNeg) then none else (if (x2 < 0 ∨ 40 ≤ Int32.toNatClampNeg x2) then none else (some (jx_up v (57 + (x1).toNatClampNeg) (Int32.toNatClampNeg x2) ((Int32.toInt8 x3).toInt32))))) else (if (v 61 (Int32.toNatClampNeg x1)) = 16 then (if (x1 < 0 ∨ 4 ≤ (x1).toNatClampNeg) then none else (if (x2 < 0 ∨ 40 ≤ Int32.toNatClampNeg x2) then none else (some (jx_up v (57 + (x1).toNatClampNeg) (Int32.toNatClampNeg x2) ((Int32.toInt16 x3).toInt32))))) else (if (x1 < 0 ∨ 4 ≤ (x1).toNatClampNeg) then none else (if (x2 < 0 ∨ 40 ≤ Int32.toNatClampNeg x2) then none else (some (jx_up v (57 + (x1).toNatClampNeg) (Int32.toNatClampNeg x2) x3)))))))
def rm_X1_store : Room := { frames := 0, cells := 0, slots := 0, locals := 0 }
set_option maxHeartbeats 4000000 in
set_option maxRecDepth 100000 in
theorem k_X1_store {l : Launch} {D : va_G} {cI cJ : ClassId} {ad : Nat → Nat} {A : Nat → Prop} {adK adV : Nat → Nat} (hI : jx_inj 67 ad A) (x1 : Int32) (x2 : Int32) (x3 : Int32) (v : jx_V) (v' : jx_V) (hF : f_X1_store x1 x2 x3 v = some v') : jx_Cv l D vwCl 67 cI cJ ad shX A (ex_X adK adV A) yX1_store (Cond.code yX1_store cX1_store 4 (none) :: bigT) rm_X1_store [.ref (ad 55), .int x1, .int x2, .int x3] v v' := by
  unfold f_X1_store at hF
  refine jx_enterv bigT RX1 cX1_store 4 (none) [(0, .ref (ad 55)), (1, .int x1), (2, .int x2), (3, .int x3)] hI (ex_X_ok adK adV A) (by decide +kernel) rfl (Nat.le_of_ble_eq_true rfl) rfl rfl ?_
  intro p e s m args below meth c E
  have iX1 : ∀ w ∈ u_ws RX1 TX1 3, w ∈ (Cond.code yX1_store cX1_store 4 (none) :: bigT) := fun w h => List.mem_cons_of_mem _ (uw_X1 w h)
  refine jx_aload_n E dX1_store_0 0 rfl ?_
  refine jx_getr (C := RX1) (T := TX1) (M := 3) (k := 1) E dX1_store_1 (Nat.le_of_ble_eq_true rfl) s_X55 rfl iX1 (by decide) rfl (List.mem_cons_of_mem _ tw_89) rfl ?_
  refine jx_iload_n E dX1_store_4 1 rfl ?_
  obtain ⟨hg1, hF⟩ := jx_guard hF
  refine jx_iald (h := 61) (j := (Int32.toNatClampNeg x1)) E dX1_store_5 (Nat.le_of_ble_eq_true rfl) s_X61 hg1 rfl ?_
  by_cases hc2 : (v 61 (Int32.toNatClampNeg x1)) = 8
  · rw [if_pos hc2] at hF
    refine jx_lookup (tgt := 32) (off := 26) E dX1_store_6 rfl (by rw [hc2]; rfl) (by decide) ?_
    refine jx_aload_n E dX1_store_32 0 rfl ?_
    refine jx_getr (C := RX1) (T := TX1) (M := 3) (k := 0) E dX1_store_33 (Nat.le_of_ble_eq_true rfl) s_X55 rfl iX1 (by decide) rfl (List.mem_cons_of_mem _ tw_91) rfl ?_
    refine jx_iload_n E dX1_store_36 1 rfl ?_
    obtain ⟨hg3, hF⟩ := jx_guard hF
    refine jx_aald (h' := (57 + (x1).toNatClampNeg)) E dX1_store_37 (Nat.le_of_ble_eq_true rfl) s_X56 hg3 (l_Sr (l_lt hg3)) ?_
    refine jx_iload_n E dX1_store_38 2 rfl ?_
    refine jx_iload_n E dX1_store_39 3 rfl ?_
    refine jx_i2b E dX1_store_40 ?_
    obtain ⟨hg4, hF⟩ := jx_guard hF
    refine jx_iast (h := (57 + (x1).toNatClampNeg)) (j := (Int32.toNatClampNeg x2)) E dX1_store_41 (n_Sr (l_lt hg3)) (s_Sr (l_lt hg3)) hg4 rfl ?_
    refine jx_goto (tgt := 67) E dX1_store_42 (by decide) ?_
    obtain rfl := Option.some.inj hF
    exact jx_vret E dX1_store_67 rfl
  rw [if_neg hc2] at hF
  by_cases hc5 : (v 61 (Int32.toNatClampNeg x1)) = 16
  · rw [if_pos hc5] at hF
    refine jx_lookup (tgt := 45) (off := 39) E dX1_store_6 rfl (by rw [hc5]; rfl) (by decide) ?_
    refine jx_aload_n E dX1_store_45 0 rfl ?_
    refine jx_getr (C := RX1) (T := TX1) (M := 3) (k := 0) E dX1_store_46 (Nat.le_of_ble_eq_true rfl) s_X55 rfl iX1 (by decide) rfl (List.mem_cons_of_mem _ tw_91) rfl ?_
    refine jx_iload_n E dX1_store_49 1 rfl ?_
    obtain ⟨hg6, hF⟩ := jx_guard hF
    refine jx_aald (h' := (57 + (x1).toNatClampNeg)) E dX1_store_50 (Nat.le_of_ble_eq_true rfl) s_X56 hg6 (l_Sr (l_lt hg6)) ?_
    refine jx_iload_n E dX1_store_51 2 rfl ?_
    refine jx_iload_n E dX1_store_52 3 rfl ?_
    refine jx_i2s E dX1_store_53 ?_
    obtain ⟨hg7, hF⟩ := jx_guard hF
    refine jx_iast (h := (57 + (x1).toNatClampNeg)) (j := (Int32.toNatClampNeg x2)) E dX1_store_54 (n_Sr (l_lt hg6)) (s_Sr (l_lt hg6)) hg7 rfl ?_
    refine jx_goto (tgt := 67) E dX1_store_55 (by decide) ?_
    obtain rfl := Option.some.inj hF
    exact jx_vret E dX1_store_67 rfl
  rw [if_neg hc5] at hF
  refine jx_lookup (tgt := 58) (off := 52) E dX1_store_6 rfl (by have hz2 := jx_ne hc2 (k := 8) (by decide); have hy2 : ¬ (8 : Int) = Int32.toInt (v 61 (Int32.toNatClampNeg x1)) := fun q => hz2 q.symm; have hz5 := jx_ne hc5 (k := 16) (by decide); have hy5 : ¬ (16 : Int) = Int32.toInt (v 61 (Int32.toNatClampNeg x1)) := fun q => hz5 q.symm; simp [Op.lookupswitch.offset, hz2, hy2, hz5, hy5]) (by decide) ?_
  refine jx_aload_n E dX1_store_58 0 rfl ?_
  refine jx_getr (C := RX1) (T := TX1) (M := 3) (k := 0) E dX1_store_59 (Nat.le_of_ble_eq_true rfl) s_X55 rfl iX1 (by decide) rfl (List.mem_cons_of_mem _ tw_91) rfl ?_
  refine jx_iload_n E dX1_store_62 1 rfl ?_
  obtain ⟨hg8, hF⟩ := jx_guard hF
  refine jx_aald (h' := (57 + (x1).toNatClampNeg)) E dX1_store_63 (Nat.le_of_ble_eq_true rfl) s_X56 hg8 (l_Sr (l_lt hg8)) ?_
  refine jx_iload_n E dX1_store_64 2 rfl ?_
  refine jx_iload_n E dX1_store_65 3 rfl ?_
  obtain ⟨hg9, hF⟩ := jx_guard hF
  refine jx_iast (h := (57 + (x1).toNatClampNeg)) (j := (Int32.toNatClampNeg x2)) E dX1_store_66 (n_Sr (l_lt hg8)) (s_Sr (l_lt hg8)) hg9 rfl ?_
  obtain rfl := Option.some.inj hF
  exact jx_vret E dX1_store_67 rfl
def f_X1_hasRange (x1 : Int32) (x2 : Int32) (x3 : Int32) (v : jx_V) : Option (Int32 × jx_V) := (if x2 < 0 then (some (0, v)) else (if x3 < 0 then (some (0, v)) else (if (x1 < 0 ∨ 4 ≤ Int32.toNatClampNeg x1) then none else (if (v 62 (Int32.toNatClampNeg x1)) < x2 then (some (0, v)) else (if (x1 < 0 ∨ 4 ≤ Int32.toNatClampNeg x1) then none else (if ((v 62 (Int32.toNatClampNeg x1)) - x2) < x3 then (some (0, v)) else (some (1, v))))))))
def rm_X1_hasRange : Room := { frames := 0, cells := 0, slots := 0, locals := 0 }
set_option maxHeartbeats 4000000 in
set_option maxRecDepth 100000 in
theorem k_X1_hasRange {l : Launch} {D : va_G} {cI cJ : ClassId} {ad : Nat → Nat} {A : Nat → Prop} {adK adV : Nat → Nat} (hI : jx_inj 67 ad A) (x1 : Int32) (x2 : Int32) (x3 : Int32) (v : jx_V) (r : Int32) (v' : jx_V) (hF : f_X1_hasRange x1 x2 x3 v = some (r, v')) : jx_Ci l D vwCl 67 cI cJ ad shX A (ex_X adK adV A) yX1_hasRange (Cond.code yX1_hasRange cX1_hasRange 4 (some .boolean) :: bigT) rm_X1_hasRange [.ref (ad 55), .int x1, .int x2, .int x3] v r v' := by
  unfold f_X1_hasRange at hF
  refine jx_enteri bigT RX1 cX1_hasRange 4 (some .boolean) [(0, .ref (ad 55)), (1, .int x1), (2, .int x2), (3, .int x3)] hI (ex_X_ok adK adV A) (by decide +kernel) rfl (Nat.le_of_ble_eq_true rfl) rfl rfl ?_
  intro p e s m args below meth c E
  have iX1 : ∀ w ∈ u_ws RX1 TX1 3, w ∈ (Cond.code yX1_hasRange cX1_hasRange 4 (some .boolean) :: bigT) := fun w h => List.mem_cons_of_mem _ (uw_X1 w h)
  refine jx_iload_n E dX1_hasRange_0 2 rfl ?_
  refine jx_if_lt (tgt := 34) E dX1_hasRange_1 (by decide) (fun hc1 => ?_) (fun hc1 => ?_)
  · rw [if_pos hc1] at hF
    refine jx_iconst (x := 0) E dX1_hasRange_34 (by decide) ?_
    obtain ⟨rfl, rfl⟩ := jx_out hF
    exact jx_zret E dX1_hasRange_35 rfl (Or.inl rfl)
  · rw [if_neg hc1] at hF
    refine jx_iload_n E dX1_hasRange_4 3 rfl ?_
    refine jx_if_lt (tgt := 34) E dX1_hasRange_5 (by decide) (fun hc2 => ?_) (fun hc2 => ?_)
    · rw [if_pos hc2] at hF
      refine jx_iconst (x := 0) E dX1_hasRange_34 (by decide) ?_
      obtain ⟨rfl, rfl⟩ := jx_out hF
      exact jx_zret E dX1_hasRange_35 rfl (Or.inl rfl)
    · rw [if_neg hc2] at hF
      refine jx_iload_n E dX1_hasRange_8 2 rfl ?_
      refine jx_aload_n E dX1_hasRange_9 0 rfl ?_
      refine jx_getr (C := RX1) (T := TX1) (M := 3) (k := 2) E dX1_hasRange_10 (Nat.le_of_ble_eq_true rfl) s_X55 rfl iX1 (by decide) rfl (List.mem_cons_of_mem _ tw_90) rfl ?_
      refine jx_iload_n E dX1_hasRange_13 1 rfl ?_
      obtain ⟨hg3, hF⟩ := jx_guard hF
      refine jx_iald (h := 62) (j := (Int32.toNatClampNeg x1)) E dX1_hasRange_14 (Nat.le_of_ble_eq_true rfl) s_X62 hg3 rfl ?_
      refine jx_icmp_gt (tgt := 34) E dX1_hasRange_15 (by decide) (fun hc4 => ?_) (fun hc4 => ?_)
      · rw [if_pos hc4] at hF
        refine jx_iconst (x := 0) E dX1_hasRange_34 (by decide) ?_
        obtain ⟨rfl, rfl⟩ := jx_out hF
        exact jx_zret E dX1_hasRange_35 rfl (Or.inl rfl)
      · rw [if_neg hc4] at hF
        refine jx_iload_n E dX1_hasRange_18 3 rfl ?_
        refine jx_aload_n E dX1_hasRange_19 0 rfl ?_
        refine jx_getr (C := RX1) (T := TX1) (M := 3) (k := 2) E dX1_hasRange_20 (Nat.le_of_ble_eq_true rfl) s_X55 rfl iX1 (by decide) rfl (List.mem_cons_of_mem _ tw_90) rfl ?_
        refine jx_iload_n E dX1_hasRange_23 1 rfl ?_
        obtain ⟨hg5, hF⟩ := jx_guard hF
        refine jx_iald (h := 62) (j := (Int32.toNatClampNeg x1)) E dX1_hasRange_24 (Nat.le_of_ble_eq_true rfl) s_X62 hg5 rfl ?_
        refine jx_iload_n E dX1_hasRange_25 2 rfl ?_
        refine jx_isub E dX1_hasRange_26 ?_
        refine jx_icmp_gt (tgt := 34) E dX1_hasRange_27 (by decide) (fun hc6 => ?_) (fun hc6 => ?_)
        · rw [if_pos hc6] at hF
          refine jx_iconst (x := 0) E dX1_hasRange_34 (by decide) ?_
          obtain ⟨rfl, rfl⟩ := jx_out hF
          exact jx_zret E dX1_hasRange_35 rfl (Or.inl rfl)
        · rw [if_neg hc6] at hF
          refine jx_iconst (x := 1) E dX1_hasRange_30 (by decide) ?_
          refine jx_goto (tgt := 35) E dX1_hasRange_31 (by decide) ?_
          obtain ⟨rfl, rfl⟩ := jx_out hF
          exact jx_zret E dX1_hasRange_35 rfl (Or.inr rfl)
def f_X2_append (x1 : Int32) (v : jx_V) : Option (jx_V) := (if 120 ≤ (v 53 1) then (some v) else (if ((v 53 1) < 0 ∨ 120 ≤ Int32.toNatClampNeg (v 53 1)) then none else (some (jx_up (jx_up v 54 (Int32.toNatClampNeg (v 53 1)) x1) 53 1 (((jx_up v 54 (Int32.toNatClampNeg (v 53 1)) x1) 53 1) + 1)))))
def rm_X2_append : Room := { frames := 0, cells := 0, slots := 0, locals := 0 }
set_option maxHeartbeats 4000000 in
set_option maxRecDepth 100000 in
theorem k_X2_append {l : Launch} {D : va_G} {cI cJ : ClassId} {ad : Nat → Nat} {A : Nat → Prop} {adK adV : Nat → Nat} (hI : jx_inj 67 ad A) (x1 : Int32) (v : jx_V) (v' : jx_V) (hF : f_X2_append x1 v = some v') : jx_Cv l D vwCl 67 cI cJ ad shX A (ex_X adK adV A) yX2_append (Cond.code yX2_append cX2_append 2 (none) :: bigT) rm_X2_append [.ref (ad 53), .int x1] v v' := by
  unfold f_X2_append at hF
  refine jx_enterv bigT RX2 cX2_append 2 (none) [(0, .ref (ad 53)), (1, .int x1)] hI (ex_X_ok adK adV A) (by decide +kernel) rfl (Nat.le_of_ble_eq_true rfl) rfl rfl ?_
  intro p e s m args below meth c E
  have iX2 : ∀ w ∈ u_ws RX2 TX2 7, w ∈ (Cond.code yX2_append cX2_append 2 (none) :: bigT) := fun w h => List.mem_cons_of_mem _ (uw_X2 w h)
  refine jx_aload_n E dX2_append_0 0 rfl ?_
  refine jx_geti (C := RX2) (T := TX2) (M := 7) (k := 1) E dX2_append_1 (Nat.le_of_ble_eq_true rfl) s_X53 rfl iX2 (by decide) rfl (List.mem_cons_of_mem _ tw_92) rfl ?_
  refine jx_bipush (x := 120) E dX2_append_4 (by decide) ?_
  refine jx_icmp_ge (tgt := 29) E dX2_append_6 (by decide) (fun hc1 => ?_) (fun hc1 => ?_)
  · rw [if_pos hc1] at hF
    obtain rfl := Option.some.inj hF
    exact jx_vret E dX2_append_29 rfl
  · rw [if_neg hc1] at hF
    refine jx_aload_n E dX2_append_9 0 rfl ?_
    refine jx_getr (C := RX2) (T := TX2) (M := 7) (k := 0) E dX2_append_10 (Nat.le_of_ble_eq_true rfl) s_X53 rfl iX2 (by decide) rfl (List.mem_cons_of_mem _ tw_93) rfl ?_
    refine jx_aload_n E dX2_append_13 0 rfl ?_
    refine jx_geti (C := RX2) (T := TX2) (M := 7) (k := 1) E dX2_append_14 (Nat.le_of_ble_eq_true rfl) s_X53 rfl iX2 (by decide) rfl (List.mem_cons_of_mem _ tw_92) rfl ?_
    refine jx_iload_n E dX2_append_17 1 rfl ?_
    obtain ⟨hg2, hF⟩ := jx_guard hF
    refine jx_iast (h := 54) (j := (Int32.toNatClampNeg (v 53 1))) E dX2_append_18 (Nat.le_of_ble_eq_true rfl) s_X54 hg2 rfl ?_
    refine jx_aload_n E dX2_append_19 0 rfl ?_
    refine jx_dup E dX2_append_20 rfl ?_
    refine jx_geti (C := RX2) (T := TX2) (M := 7) (k := 1) E dX2_append_21 (Nat.le_of_ble_eq_true rfl) s_X53 rfl iX2 (by decide) rfl (List.mem_cons_of_mem _ tw_92) rfl ?_
    refine jx_iconst (x := 1) E dX2_append_24 (by decide) ?_
    refine jx_iadd E dX2_append_25 ?_
    refine jx_puti (C := RX2) (T := TX2) (M := 7) (k := 1) (ty := .int) E tyX2 dX2_append_26 (Nat.le_of_ble_eq_true rfl) s_X53 rfl iX2 (by decide) rfl (List.mem_cons_of_mem _ tw_92) tyX2_ok nmX2 rfl (by decide +kernel) rfl rfl rfl ?_
    obtain rfl := Option.some.inj hF
    exact jx_vret E dX2_append_29 rfl
def f_X2_sortAt (x1 : Int32) (v : jx_V) : Option (Int32 × jx_V) := (if x1 < 0 then (some (0, v)) else (if x1 < (v 53 1) then (if (x1 < 0 ∨ 120 ≤ Int32.toNatClampNeg x1) then none else (if (v 54 (Int32.toNatClampNeg x1)) < 97 then (if (v 54 (Int32.toNatClampNeg x1)) < 48 then (if (v 54 (Int32.toNatClampNeg x1)) = 59 then (some (3, v)) else (some (4, v))) else (if 57 < (v 54 (Int32.toNatClampNeg x1)) then (if (v 54 (Int32.toNatClampNeg x1)) = 59 then (some (3, v)) else (some (4, v))) else (some (2, v)))) else (if 122 < (v 54 (Int32.toNatClampNeg x1)) then (if (v 54 (Int32.toNatClampNeg x1)) < 48 then (if (v 54 (Int32.toNatClampNeg x1)) = 59 then (some (3, v)) else (some (4, v))) else (if 57 < (v 54 (Int32.toNatClampNeg x1)) then (if (v 54 (Int32.toNatClampNeg x1)) = 59 then (some (3, v)) else (some (4, v))) else (some (2, v)))) else (some (1, v))))) else (some (0, v))))
def rm_X2_sortAt : Room := { frames := 0, cells := 0, slots := 0, locals := 0 }
set_option maxHeartbeats 4000000 in
set_option maxRecDepth 100000 in
theorem k_X2_sortAt {l : Launch} {D : va_G} {cI cJ : ClassId} {ad : Nat → Nat} {A : Nat → Prop} {adK adV : Nat → Nat} (hI : jx_inj 67 ad A) (x1 : Int32) (v : jx_V) (r : Int32) (v' : jx_V) (hF : f_X2_sortAt x1 v = some (r, v')) : jx_Ci l D vwCl 67 cI cJ ad shX A (ex_X adK adV A) yX2_sortAt (Cond.code yX2_sortAt cX2_sortAt 3 (some .int) :: bigT) rm_X2_sortAt [.ref (ad 53), .int x1] v r v' := by
  unfold f_X2_sortAt at hF
  refine jx_enteri bigT RX2 cX2_sortAt 3 (some .int) [(0, .ref (ad 53)), (1, .int x1)] hI (ex_X_ok adK adV A) (by decide +kernel) rfl (Nat.le_of_ble_eq_true rfl) rfl rfl ?_
  intro p e s m args below meth c E
  have iX2 : ∀ w ∈ u_ws RX2 TX2 7, w ∈ (Cond.code yX2_sortAt cX2_sortAt 3 (some .int) :: bigT) := fun w h => List.mem_cons_of_mem _ (uw_X2 w h)
  refine jx_iload_n E dX2_sortAt_0 1 rfl ?_
  refine jx_if_lt (tgt := 12) E dX2_sortAt_1 (by decide) (fun hc1 => ?_) (fun hc1 => ?_)
  · rw [if_pos hc1] at hF
    refine jx_iconst (x := 0) E dX2_sortAt_12 (by decide) ?_
    obtain ⟨rfl, rfl⟩ := jx_out hF
    exact jx_iret E dX2_sortAt_13 rfl
  · rw [if_neg hc1] at hF
    refine jx_iload_n E dX2_sortAt_4 1 rfl ?_
    refine jx_aload_n E dX2_sortAt_5 0 rfl ?_
    refine jx_geti (C := RX2) (T := TX2) (M := 7) (k := 1) E dX2_sortAt_6 (Nat.le_of_ble_eq_true rfl) s_X53 rfl iX2 (by decide) rfl (List.mem_cons_of_mem _ tw_92) rfl ?_
    refine jx_icmp_lt (tgt := 14) E dX2_sortAt_9 (by decide) (fun hc2 => ?_) (fun hc2 => ?_)
    · rw [if_pos hc2] at hF
      refine jx_aload_n E dX2_sortAt_14 0 rfl ?_
      refine jx_getr (C := RX2) (T := TX2) (M := 7) (k := 0) E dX2_sortAt_15 (Nat.le_of_ble_eq_true rfl) s_X53 rfl iX2 (by decide) rfl (List.mem_cons_of_mem _ tw_93) rfl ?_
      refine jx_iload_n E dX2_sortAt_18 1 rfl ?_
      obtain ⟨hg3, hF⟩ := jx_guard hF
      refine jx_iald (h := 54) (j := (Int32.toNatClampNeg x1)) E dX2_sortAt_19 (Nat.le_of_ble_eq_true rfl) s_X54 hg3 rfl ?_
      refine jx_istore_n (lv' := [(2, .int (v 54 (Int32.toNatClampNeg x1))), (0, .ref (ad 53)), (1, .int x1)]) E dX2_sortAt_20 (by decide) rfl ?_
      refine jx_iload_n E dX2_sortAt_21 0 rfl ?_
      refine jx_bipush (x := 97) E dX2_sortAt_22 (by decide) ?_
      refine jx_icmp_lt (tgt := 35) E dX2_sortAt_24 (by decide) (fun hc4 => ?_) (fun hc4 => ?_)
      · rw [if_pos hc4] at hF
        refine jx_iload_n E dX2_sortAt_35 0 rfl ?_
        refine jx_bipush (x := 48) E dX2_sortAt_36 (by decide) ?_
        refine jx_icmp_lt (tgt := 49) E dX2_sortAt_38 (by decide) (fun hc5 => ?_) (fun hc5 => ?_)
        · rw [if_pos hc5] at hF
          refine jx_iload_n E dX2_sortAt_49 0 rfl ?_
          refine jx_bipush (x := 59) E dX2_sortAt_50 (by decide) ?_
          refine jx_icmp_ne (tgt := 59) E dX2_sortAt_52 (by decide) (fun hc6 => ?_) (fun hc6 => ?_)
          · rw [if_neg hc6] at hF
            refine jx_iconst (x := 4) E dX2_sortAt_59 (by decide) ?_
            obtain ⟨rfl, rfl⟩ := jx_out hF
            exact jx_iret E dX2_sortAt_60 rfl
          · rw [if_pos hc6] at hF
            refine jx_iconst (x := 3) E dX2_sortAt_55 (by decide) ?_
            refine jx_goto (tgt := 60) E dX2_sortAt_56 (by decide) ?_
            obtain ⟨rfl, rfl⟩ := jx_out hF
            exact jx_iret E dX2_sortAt_60 rfl
        · rw [if_neg hc5] at hF
          refine jx_iload_n E dX2_sortAt_41 0 rfl ?_
          refine jx_bipush (x := 57) E dX2_sortAt_42 (by decide) ?_
          refine jx_icmp_gt (tgt := 49) E dX2_sortAt_44 (by decide) (fun hc7 => ?_) (fun hc7 => ?_)
          · rw [if_pos hc7] at hF
            refine jx_iload_n E dX2_sortAt_49 0 rfl ?_
            refine jx_bipush (x := 59) E dX2_sortAt_50 (by decide) ?_
            refine jx_icmp_ne (tgt := 59) E dX2_sortAt_52 (by decide) (fun hc8 => ?_) (fun hc8 => ?_)
            · rw [if_neg hc8] at hF
              refine jx_iconst (x := 4) E dX2_sortAt_59 (by decide) ?_
              obtain ⟨rfl, rfl⟩ := jx_out hF
              exact jx_iret E dX2_sortAt_60 rfl
            · rw [if_pos hc8] at hF
              refine jx_iconst (x := 3) E dX2_sortAt_55 (by decide) ?_
              refine jx_goto (tgt := 60) E dX2_sortAt_56 (by decide) ?_
              obtain ⟨rfl, rfl⟩ := jx_out hF
              exact jx_iret E dX2_sortAt_60 rfl
          · rw [if_neg hc7] at hF
            refine jx_iconst (x := 2) E dX2_sortAt_47 (by decide) ?_
            obtain ⟨rfl, rfl⟩ := jx_out hF
            exact jx_iret E dX2_sortAt_48 rfl
      · rw [if_neg hc4] at hF
        refine jx_iload_n E dX2_sortAt_27 0 rfl ?_
        refine jx_bipush (x := 122) E dX2_sortAt_28 (by decide) ?_
        refine jx_icmp_gt (tgt := 35) E dX2_sortAt_30 (by decide) (fun hc9 => ?_) (fun hc9 => ?_)
        · rw [if_pos hc9] at hF
          refine jx_iload_n E dX2_sortAt_35 0 rfl ?_
          refine jx_bipush (x := 48) E dX2_sortAt_36 (by decide) ?_
          refine jx_icmp_lt (tgt := 49) E dX2_sortAt_38 (by decide) (fun hc10 => ?_) (fun hc10 => ?_)
          · rw [if_pos hc10] at hF
            refine jx_iload_n E dX2_sortAt_49 0 rfl ?_
            refine jx_bipush (x := 59) E dX2_sortAt_50 (by decide) ?_
            refine jx_icmp_ne (tgt := 59) E dX2_sortAt_52 (by decide) (fun hc11 => ?_) (fun hc11 => ?_)
            · rw [if_neg hc11] at hF
              refine jx_iconst (x := 4) E dX2_sortAt_59 (by decide) ?_
              obtain ⟨rfl, rfl⟩ := jx_out hF
              exact jx_iret E dX2_sortAt_60 rfl
            · rw [if_pos hc11] at hF
              refine jx_iconst (x := 3) E dX2_sortAt_55 (by decide) ?_
              refine jx_goto (tgt := 60) E dX2_sortAt_56 (by decide) ?_
              obtain ⟨rfl, rfl⟩ := jx_out hF
              exact jx_iret E dX2_sortAt_60 rfl
          · rw [if_neg hc10] at hF
            refine jx_iload_n E dX2_sortAt_41 0 rfl ?_
            refine jx_bipush (x := 57) E dX2_sortAt_42 (by decide) ?_
            refine jx_icmp_gt (tgt := 49) E dX2_sortAt_44 (by decide) (fun hc12 => ?_) (fun hc12 => ?_)
            · rw [if_pos hc12] at hF
              refine jx_iload_n E dX2_sortAt_49 0 rfl ?_
              refine jx_bipush (x := 59) E dX2_sortAt_50 (by decide) ?_
              refine jx_icmp_ne (tgt := 59) E dX2_sortAt_52 (by decide) (fun hc13 => ?_) (fun hc13 => ?_)
              · rw [if_neg hc13] at hF
                refine jx_iconst (x := 4) E dX2_sortAt_59 (by decide) ?_
                obtain ⟨rfl, rfl⟩ := jx_out hF
                exact jx_iret E dX2_sortAt_60 rfl
              · rw [if_pos hc13] at hF
                refine jx_iconst (x := 3) E dX2_sortAt_55 (by decide) ?_
                refine jx_goto (tgt := 60) E dX2_sortAt_56 (by decide) ?_
                obtain ⟨rfl, rfl⟩ := jx_out hF
                exact jx_iret E dX2_sortAt_60 rfl
            · rw [if_neg hc12] at hF
              refine jx_iconst (x := 2) E dX2_sortAt_47 (by decide) ?_
              obtain ⟨rfl, rfl⟩ := jx_out hF
              exact jx_iret E dX2_sortAt_48 rfl
        · rw [if_neg hc9] at hF
          refine jx_iconst (x := 1) E dX2_sortAt_33 (by decide) ?_
          obtain ⟨rfl, rfl⟩ := jx_out hF
          exact jx_iret E dX2_sortAt_34 rfl
    · rw [if_neg hc2] at hF
      refine jx_iconst (x := 0) E dX2_sortAt_12 (by decide) ?_
      obtain ⟨rfl, rfl⟩ := jx_out hF
      exact jx_iret E dX2_sortAt_13 rfl
def f_X2_nextToken_L  : Nat → Nat → jx_V → Option (jx_V)
  | 0, _, _ => none
  | n + 1, tag, v => (if tag = 0 then (if (v 53 1) ≤ (v 53 4) then ((f_X2_sortAt ((jx_up v 53 3 (v 53 4)) 53 3) (jx_up v 53 3 (v 53 4))).bind (fun (r2, v2) => (if ((jx_up (jx_up v2 53 2 r2) 53 5 0) 53 2) = 3 then (some (jx_up (jx_up (jx_up v2 53 2 r2) 53 5 0) 53 4 (((jx_up (jx_up v2 53 2 r2) 53 5 0) 53 4) + 1))) else (if ((jx_up (jx_up v2 53 2 r2) 53 5 0) 53 2) = 1 then (f_X2_nextToken_L n 1 (jx_up (jx_up v2 53 2 r2) 53 5 0)) else (if ((jx_up (jx_up v2 53 2 r2) 53 5 0) 53 2) = 2 then (f_X2_nextToken_L n 1 (jx_up (jx_up v2 53 2 r2) 53 5 0)) else (some (jx_up (jx_up v2 53 2 r2) 53 5 0))))))) else (if ((v 53 4) < 0 ∨ 120 ≤ Int32.toNatClampNeg (v 53 4)) then none else (if (v 54 (Int32.toNatClampNeg (v 53 4))) = 32 then (f_X2_nextToken_L n 0 (jx_up v 53 4 ((v 53 4) + 1))) else ((f_X2_sortAt ((jx_up v 53 3 (v 53 4)) 53 3) (jx_up v 53 3 (v 53 4))).bind (fun (r8, v8) => (if ((jx_up (jx_up v8 53 2 r8) 53 5 0) 53 2) = 3 then (some (jx_up (jx_up (jx_up v8 53 2 r8) 53 5 0) 53 4 (((jx_up (jx_up v8 53 2 r8) 53 5 0) 53 4) + 1))) else (if ((jx_up (jx_up v8 53 2 r8) 53 5 0) 53 2) = 1 then (f_X2_nextToken_L n 1 (jx_up (jx_up v8 53 2 r8) 53 5 0)) else (if ((jx_up (jx_up v8 53 2 r8) 53 5 0) 53 2) = 2 then (f_X2_nextToken_L n 1 (jx_up (jx_up v8 53 2 r8) 53 5 0)) else (some (jx_up (jx_up v8 53 2 r8) 53 5 0)))))))))) else (if tag = 1 then (if (v 53 1) ≤ (v 53 4) then (some v) else ((f_X2_sortAt (v 53 4) v).bind (fun (r13, v13) => (if r13 = (v13 53 2) then (if (v13 53 2) = 2 then (if ((v13 53 4) < 0 ∨ 120 ≤ Int32.toNatClampNeg (v13 53 4)) then none else ((f_J9_min_7cf53 1000 (((10 * (v13 53 5)) + (v13 54 (Int32.toNatClampNeg (v13 53 4)))) - 48) v13).bind (fun (r17, v17) => (f_X2_nextToken_L n 1 (jx_up (jx_up v17 53 5 r17) 53 4 (((jx_up v17 53 5 r17) 53 4) + 1)))))) else (f_X2_nextToken_L n 1 (jx_up (jx_up v13 53 5 0) 53 4 (((jx_up v13 53 5 0) 53 4) + 1)))) else (some v13))))) else none))
def f_X2_nextToken  (v : jx_V) : Option (jx_V) := (f_X2_nextToken_L 100000 0 v)
def rm_X2_nextToken : Room := { frames := 1, cells := 0, slots := 0, locals := 22 }
set_option maxHeartbeats 4000000 in
set_option maxRecDepth 100000 in
theorem k_X2_nextToken {l : Launch} {D : va_G} {cI cJ : ClassId} {ad : Nat → Nat} {A : Nat → Prop} {adK adV : Nat → Nat} (hI : jx_inj 67 ad A)  (v : jx_V) (v' : jx_V) (hF : f_X2_nextToken  v = some v') : jx_Cv l D vwCl 67 cI cJ ad shX A (ex_X adK adV A) yX2_nextToken (Cond.code yX2_nextToken cX2_nextToken 1 (none) :: bigT) rm_X2_nextToken [.ref (ad 53)] v v' := by
  unfold f_X2_nextToken at hF
  refine jx_enterv bigT RX2 cX2_nextToken 1 (none) [(0, .ref (ad 53))] hI (ex_X_ok adK adV A) (by decide +kernel) rfl (Nat.le_of_ble_eq_true rfl) rfl rfl ?_
  intro p e s m args below meth c E
  have iX2 : ∀ w ∈ u_ws RX2 TX2 7, w ∈ (Cond.code yX2_nextToken cX2_nextToken 1 (none) :: bigT) := fun w h => List.mem_cons_of_mem _ (uw_X2 w h)
  have key : ∀ n : Nat, (∀  (v : jx_V), f_X2_nextToken_L  n 0  v = some v' → jx_J p l e rm_X2_nextToken s m args below meth c D vwCl 67 cI cJ ad shX A 0 0 1 (MQ below (va_Qv (fun (_ : Unit) => True) (fun _ t => va_P D vwCl (jx_ws 67 cI cJ ad shX v') t.heap) A) args s 0 0 A) v 0 [(0, .ref (ad 53))] []) ∧ (∀  (v : jx_V), f_X2_nextToken_L  n 1  v = some v' → jx_J p l e rm_X2_nextToken s m args below meth c D vwCl 67 cI cJ ad shX A 0 0 1 (MQ below (va_Qv (fun (_ : Unit) => True) (fun _ t => va_P D vwCl (jx_ws 67 cI cJ ad shX v') t.heap) A) args s 0 0 A) v 100 [(0, .ref (ad 53))] []) := by
    intro n
    induction n with
    | zero =>
      exact ⟨(fun _ h => by cases h), (fun _ h => by cases h)⟩
    | succ n ih =>
      refine ⟨?_, ?_⟩
      · intro  v hF
        rw [f_X2_nextToken_L] at hF
        rw [if_pos rfl] at hF
        refine jx_aload_n E dX2_nextToken_0 0 rfl ?_
        refine jx_geti (C := RX2) (T := TX2) (M := 7) (k := 4) E dX2_nextToken_1 (Nat.le_of_ble_eq_true rfl) s_X53 rfl iX2 (by decide) rfl (List.mem_cons_of_mem _ tw_94) rfl ?_
        refine jx_aload_n E dX2_nextToken_4 0 rfl ?_
        refine jx_geti (C := RX2) (T := TX2) (M := 7) (k := 1) E dX2_nextToken_5 (Nat.le_of_ble_eq_true rfl) s_X53 rfl iX2 (by decide) rfl (List.mem_cons_of_mem _ tw_92) rfl ?_
        refine jx_icmp_ge (tgt := 38) E dX2_nextToken_8 (by decide) (fun hc1 => ?_) (fun hc1 => ?_)
        · rw [if_pos hc1] at hF
          refine jx_aload_n E dX2_nextToken_38 0 rfl ?_
          refine jx_aload_n E dX2_nextToken_39 0 rfl ?_
          refine jx_geti (C := RX2) (T := TX2) (M := 7) (k := 4) E dX2_nextToken_40 (Nat.le_of_ble_eq_true rfl) s_X53 rfl iX2 (by decide) rfl (List.mem_cons_of_mem _ tw_94) rfl ?_
          refine jx_puti (C := RX2) (T := TX2) (M := 7) (k := 3) (ty := .int) E tyX2 dX2_nextToken_43 (Nat.le_of_ble_eq_true rfl) s_X53 rfl iX2 (by decide) rfl (List.mem_cons_of_mem _ tw_95) tyX2_ok nmX2 rfl (by decide +kernel) rfl rfl rfl ?_
          refine jx_aload_n E dX2_nextToken_46 0 rfl ?_
          refine jx_aload_n E dX2_nextToken_47 0 rfl ?_
          refine jx_aload_n E dX2_nextToken_48 0 rfl ?_
          refine jx_geti (C := RX2) (T := TX2) (M := 7) (k := 3) E dX2_nextToken_49 (Nat.le_of_ble_eq_true rfl) s_X53 rfl iX2 (by decide) rfl (List.mem_cons_of_mem _ tw_95) rfl ?_
          obtain ⟨⟨r2, v2⟩, hc2, hF⟩ := jx_bind hF
          try dsimp only at hF
          refine jx_callVi (As := [.int ((jx_up v 53 3 (v 53 4)) 53 3)]) (st := [.ref (ad 53)]) (h := 53) E dX2_nextToken_52 1 rfl (k_X2_sortAt hI ((jx_up v 53 3 (v 53 4)) 53 3) (jx_up v 53 3 (v 53 4)) r2 v2 hc2) (gb_V (List.mem_cons_of_mem _ tw_97) (List.mem_cons_of_mem _ tw_98) (List.mem_cons_of_mem _ tw_99) (List.mem_cons_of_mem _ tw_100) tw_96) rfl rfl rfl dd_X2_sortAt rfl (Nat.le_of_ble_eq_true rfl) s_X53 rfl ⟨by decide, by decide⟩ ⟨Nat.le_refl 0, Nat.le_refl 0⟩ (Nat.le_of_ble_eq_true rfl) ?_
          refine jx_puti (C := RX2) (T := TX2) (M := 7) (k := 2) (ty := .int) E tyX2 dX2_nextToken_55 (Nat.le_of_ble_eq_true rfl) s_X53 rfl iX2 (by decide) rfl (List.mem_cons_of_mem _ tw_101) tyX2_ok nmX2 rfl (by decide +kernel) rfl rfl rfl ?_
          refine jx_aload_n E dX2_nextToken_58 0 rfl ?_
          refine jx_iconst (x := 0) E dX2_nextToken_59 (by decide) ?_
          refine jx_puti (C := RX2) (T := TX2) (M := 7) (k := 5) (ty := .int) E tyX2 dX2_nextToken_60 (Nat.le_of_ble_eq_true rfl) s_X53 rfl iX2 (by decide) rfl (List.mem_cons_of_mem _ tw_102) tyX2_ok nmX2 rfl (by decide +kernel) rfl rfl rfl ?_
          refine jx_aload_n E dX2_nextToken_63 0 rfl ?_
          refine jx_geti (C := RX2) (T := TX2) (M := 7) (k := 2) E dX2_nextToken_64 (Nat.le_of_ble_eq_true rfl) s_X53 rfl iX2 (by decide) rfl (List.mem_cons_of_mem _ tw_101) rfl ?_
          refine jx_iconst (x := 3) E dX2_nextToken_67 (by decide) ?_
          refine jx_icmp_ne (tgt := 84) E dX2_nextToken_68 (by decide) (fun hc3 => ?_) (fun hc3 => ?_)
          · rw [if_neg hc3] at hF
            refine jx_aload_n E dX2_nextToken_84 0 rfl ?_
            refine jx_geti (C := RX2) (T := TX2) (M := 7) (k := 2) E dX2_nextToken_85 (Nat.le_of_ble_eq_true rfl) s_X53 rfl iX2 (by decide) rfl (List.mem_cons_of_mem _ tw_101) rfl ?_
            refine jx_iconst (x := 1) E dX2_nextToken_88 (by decide) ?_
            refine jx_icmp_eq (tgt := 100) E dX2_nextToken_89 (by decide) (fun hc4 => ?_) (fun hc4 => ?_)
            · rw [if_pos hc4] at hF
              refine jx_sub [0] rfl ?_
              exact ih.2  (jx_up (jx_up v2 53 2 r2) 53 5 0) hF
            · rw [if_neg hc4] at hF
              refine jx_aload_n E dX2_nextToken_92 0 rfl ?_
              refine jx_geti (C := RX2) (T := TX2) (M := 7) (k := 2) E dX2_nextToken_93 (Nat.le_of_ble_eq_true rfl) s_X53 rfl iX2 (by decide) rfl (List.mem_cons_of_mem _ tw_101) rfl ?_
              refine jx_iconst (x := 2) E dX2_nextToken_96 (by decide) ?_
              refine jx_icmp_ne (tgt := 181) E dX2_nextToken_97 (by decide) (fun hc5 => ?_) (fun hc5 => ?_)
              · rw [if_neg hc5] at hF
                obtain rfl := Option.some.inj hF
                exact jx_vret E dX2_nextToken_181 rfl
              · rw [if_pos hc5] at hF
                refine jx_sub [0] rfl ?_
                exact ih.2  (jx_up (jx_up v2 53 2 r2) 53 5 0) hF
          · rw [if_pos hc3] at hF
            refine jx_aload_n E dX2_nextToken_71 0 rfl ?_
            refine jx_dup E dX2_nextToken_72 rfl ?_
            refine jx_geti (C := RX2) (T := TX2) (M := 7) (k := 4) E dX2_nextToken_73 (Nat.le_of_ble_eq_true rfl) s_X53 rfl iX2 (by decide) rfl (List.mem_cons_of_mem _ tw_94) rfl ?_
            refine jx_iconst (x := 1) E dX2_nextToken_76 (by decide) ?_
            refine jx_iadd E dX2_nextToken_77 ?_
            refine jx_puti (C := RX2) (T := TX2) (M := 7) (k := 4) (ty := .int) E tyX2 dX2_nextToken_78 (Nat.le_of_ble_eq_true rfl) s_X53 rfl iX2 (by decide) rfl (List.mem_cons_of_mem _ tw_94) tyX2_ok nmX2 rfl (by decide +kernel) rfl rfl rfl ?_
            refine jx_goto (tgt := 181) E dX2_nextToken_81 (by decide) ?_
            obtain rfl := Option.some.inj hF
            exact jx_vret E dX2_nextToken_181 rfl
        · rw [if_neg hc1] at hF
          refine jx_aload_n E dX2_nextToken_11 0 rfl ?_
          refine jx_getr (C := RX2) (T := TX2) (M := 7) (k := 0) E dX2_nextToken_12 (Nat.le_of_ble_eq_true rfl) s_X53 rfl iX2 (by decide) rfl (List.mem_cons_of_mem _ tw_93) rfl ?_
          refine jx_aload_n E dX2_nextToken_15 0 rfl ?_
          refine jx_geti (C := RX2) (T := TX2) (M := 7) (k := 4) E dX2_nextToken_16 (Nat.le_of_ble_eq_true rfl) s_X53 rfl iX2 (by decide) rfl (List.mem_cons_of_mem _ tw_94) rfl ?_
          obtain ⟨hg6, hF⟩ := jx_guard hF
          refine jx_iald (h := 54) (j := (Int32.toNatClampNeg (v 53 4))) E dX2_nextToken_19 (Nat.le_of_ble_eq_true rfl) s_X54 hg6 rfl ?_
          refine jx_bipush (x := 32) E dX2_nextToken_20 (by decide) ?_
          refine jx_icmp_ne (tgt := 38) E dX2_nextToken_22 (by decide) (fun hc7 => ?_) (fun hc7 => ?_)
          · rw [if_neg hc7] at hF
            refine jx_aload_n E dX2_nextToken_38 0 rfl ?_
            refine jx_aload_n E dX2_nextToken_39 0 rfl ?_
            refine jx_geti (C := RX2) (T := TX2) (M := 7) (k := 4) E dX2_nextToken_40 (Nat.le_of_ble_eq_true rfl) s_X53 rfl iX2 (by decide) rfl (List.mem_cons_of_mem _ tw_94) rfl ?_
            refine jx_puti (C := RX2) (T := TX2) (M := 7) (k := 3) (ty := .int) E tyX2 dX2_nextToken_43 (Nat.le_of_ble_eq_true rfl) s_X53 rfl iX2 (by decide) rfl (List.mem_cons_of_mem _ tw_95) tyX2_ok nmX2 rfl (by decide +kernel) rfl rfl rfl ?_
            refine jx_aload_n E dX2_nextToken_46 0 rfl ?_
            refine jx_aload_n E dX2_nextToken_47 0 rfl ?_
            refine jx_aload_n E dX2_nextToken_48 0 rfl ?_
            refine jx_geti (C := RX2) (T := TX2) (M := 7) (k := 3) E dX2_nextToken_49 (Nat.le_of_ble_eq_true rfl) s_X53 rfl iX2 (by decide) rfl (List.mem_cons_of_mem _ tw_95) rfl ?_
            obtain ⟨⟨r8, v8⟩, hc8, hF⟩ := jx_bind hF
            try dsimp only at hF
            refine jx_callVi (As := [.int ((jx_up v 53 3 (v 53 4)) 53 3)]) (st := [.ref (ad 53)]) (h := 53) E dX2_nextToken_52 1 rfl (k_X2_sortAt hI ((jx_up v 53 3 (v 53 4)) 53 3) (jx_up v 53 3 (v 53 4)) r8 v8 hc8) (gb_V (List.mem_cons_of_mem _ tw_97) (List.mem_cons_of_mem _ tw_98) (List.mem_cons_of_mem _ tw_99) (List.mem_cons_of_mem _ tw_100) tw_96) rfl rfl rfl dd_X2_sortAt rfl (Nat.le_of_ble_eq_true rfl) s_X53 rfl ⟨by decide, by decide⟩ ⟨Nat.le_refl 0, Nat.le_refl 0⟩ (Nat.le_of_ble_eq_true rfl) ?_
            refine jx_puti (C := RX2) (T := TX2) (M := 7) (k := 2) (ty := .int) E tyX2 dX2_nextToken_55 (Nat.le_of_ble_eq_true rfl) s_X53 rfl iX2 (by decide) rfl (List.mem_cons_of_mem _ tw_101) tyX2_ok nmX2 rfl (by decide +kernel) rfl rfl rfl ?_
            refine jx_aload_n E dX2_nextToken_58 0 rfl ?_
            refine jx_iconst (x := 0) E dX2_nextToken_59 (by decide) ?_
            refine jx_puti (C := RX2) (T := TX2) (M := 7) (k := 5) (ty := .int) E tyX2 dX2_nextToken_60 (Nat.le_of_ble_eq_true rfl) s_X53 rfl iX2 (by decide) rfl (List.mem_cons_of_mem _ tw_102) tyX2_ok nmX2 rfl (by decide +kernel) rfl rfl rfl ?_
            refine jx_aload_n E dX2_nextToken_63 0 rfl ?_
            refine jx_geti (C := RX2) (T := TX2) (M := 7) (k := 2) E dX2_nextToken_64 (Nat.le_of_ble_eq_true rfl) s_X53 rfl iX2 (by decide) rfl (List.mem_cons_of_mem _ tw_101) rfl ?_
            refine jx_iconst (x := 3) E dX2_nextToken_67 (by decide) ?_
            refine jx_icmp_ne (tgt := 84) E dX2_nextToken_68 (by decide) (fun hc9 => ?_) (fun hc9 => ?_)
            · rw [if_neg hc9] at hF
              refine jx_aload_n E dX2_nextToken_84 0 rfl ?_
              refine jx_geti (C := RX2) (T := TX2) (M := 7) (k := 2) E dX2_nextToken_85 (Nat.le_of_ble_eq_true rfl) s_X53 rfl iX2 (by decide) rfl (List.mem_cons_of_mem _ tw_101) rfl ?_
              refine jx_iconst (x := 1) E dX2_nextToken_88 (by decide) ?_
              refine jx_icmp_eq (tgt := 100) E dX2_nextToken_89 (by decide) (fun hc10 => ?_) (fun hc10 => ?_)
              · rw [if_pos hc10] at hF
                refine jx_sub [0] rfl ?_
                exact ih.2  (jx_up (jx_up v8 53 2 r8) 53 5 0) hF
              · rw [if_neg hc10] at hF
                refine jx_aload_n E dX2_nextToken_92 0 rfl ?_
                refine jx_geti (C := RX2) (T := TX2) (M := 7) (k := 2) E dX2_nextToken_93 (Nat.le_of_ble_eq_true rfl) s_X53 rfl iX2 (by decide) rfl (List.mem_cons_of_mem _ tw_101) rfl ?_
                refine jx_iconst (x := 2) E dX2_nextToken_96 (by decide) ?_
                refine jx_icmp_ne (tgt := 181) E dX2_nextToken_97 (by decide) (fun hc11 => ?_) (fun hc11 => ?_)
                · rw [if_neg hc11] at hF
                  obtain rfl := Option.some.inj hF
                  exact jx_vret E dX2_nextToken_181 rfl
                · rw [if_pos hc11] at hF
                  refine jx_sub [0] rfl ?_
                  exact ih.2  (jx_up (jx_up v8 53 2 r8) 53 5 0) hF
            · rw [if_pos hc9] at hF
              refine jx_aload_n E dX2_nextToken_71 0 rfl ?_
              refine jx_dup E dX2_nextToken_72 rfl ?_
              refine jx_geti (C := RX2) (T := TX2) (M := 7) (k := 4) E dX2_nextToken_73 (Nat.le_of_ble_eq_true rfl) s_X53 rfl iX2 (by decide) rfl (List.mem_cons_of_mem _ tw_94) rfl ?_
              refine jx_iconst (x := 1) E dX2_nextToken_76 (by decide) ?_
              refine jx_iadd E dX2_nextToken_77 ?_
              refine jx_puti (C := RX2) (T := TX2) (M := 7) (k := 4) (ty := .int) E tyX2 dX2_nextToken_78 (Nat.le_of_ble_eq_true rfl) s_X53 rfl iX2 (by decide) rfl (List.mem_cons_of_mem _ tw_94) tyX2_ok nmX2 rfl (by decide +kernel) rfl rfl rfl ?_
              refine jx_goto (tgt := 181) E dX2_nextToken_81 (by decide) ?_
              obtain rfl := Option.some.inj hF
              exact jx_vret E dX2_nextToken_181 rfl
          · rw [if_pos hc7] at hF
            refine jx_aload_n E dX2_nextToken_25 0 rfl ?_
            refine jx_dup E dX2_nextToken_26 rfl ?_
            refine jx_geti (C := RX2) (T := TX2) (M := 7) (k := 4) E dX2_nextToken_27 (Nat.le_of_ble_eq_true rfl) s_X53 rfl iX2 (by decide) rfl (List.mem_cons_of_mem _ tw_94) rfl ?_
            refine jx_iconst (x := 1) E dX2_nextToken_30 (by decide) ?_
            refine jx_iadd E dX2_nextToken_31 ?_
            refine jx_puti (C := RX2) (T := TX2) (M := 7) (k := 4) (ty := .int) E tyX2 dX2_nextToken_32 (Nat.le_of_ble_eq_true rfl) s_X53 rfl iX2 (by decide) rfl (List.mem_cons_of_mem _ tw_94) tyX2_ok nmX2 rfl (by decide +kernel) rfl rfl rfl ?_
            refine jx_goto (tgt := 0) E dX2_nextToken_35 (by decide) ?_
            refine jx_sub [0] rfl ?_
            exact ih.1  (jx_up v 53 4 ((v 53 4) + 1)) hF
      · intro  v hF
        rw [f_X2_nextToken_L] at hF
        rw [if_neg (by decide), if_pos rfl] at hF
        refine jx_aload_n E dX2_nextToken_100 0 rfl ?_
        refine jx_geti (C := RX2) (T := TX2) (M := 7) (k := 4) E dX2_nextToken_101 (Nat.le_of_ble_eq_true rfl) s_X53 rfl iX2 (by decide) rfl (List.mem_cons_of_mem _ tw_94) rfl ?_
        refine jx_aload_n E dX2_nextToken_104 0 rfl ?_
        refine jx_geti (C := RX2) (T := TX2) (M := 7) (k := 1) E dX2_nextToken_105 (Nat.le_of_ble_eq_true rfl) s_X53 rfl iX2 (by decide) rfl (List.mem_cons_of_mem _ tw_92) rfl ?_
        refine jx_icmp_ge (tgt := 181) E dX2_nextToken_108 (by decide) (fun hc12 => ?_) (fun hc12 => ?_)
        · rw [if_pos hc12] at hF
          obtain rfl := Option.some.inj hF
          exact jx_vret E dX2_nextToken_181 rfl
        · rw [if_neg hc12] at hF
          refine jx_aload_n E dX2_nextToken_111 0 rfl ?_
          refine jx_aload_n E dX2_nextToken_112 0 rfl ?_
          refine jx_geti (C := RX2) (T := TX2) (M := 7) (k := 4) E dX2_nextToken_113 (Nat.le_of_ble_eq_true rfl) s_X53 rfl iX2 (by decide) rfl (List.mem_cons_of_mem _ tw_94) rfl ?_
          obtain ⟨⟨r13, v13⟩, hc13, hF⟩ := jx_bind hF
          try dsimp only at hF
          refine jx_callVi (As := [.int (v 53 4)]) (st := []) (h := 53) E dX2_nextToken_116 1 rfl (k_X2_sortAt hI (v 53 4) v r13 v13 hc13) (gb_V (List.mem_cons_of_mem _ tw_97) (List.mem_cons_of_mem _ tw_98) (List.mem_cons_of_mem _ tw_99) (List.mem_cons_of_mem _ tw_100) tw_96) rfl rfl rfl dd_X2_sortAt rfl (Nat.le_of_ble_eq_true rfl) s_X53 rfl ⟨by decide, by decide⟩ ⟨Nat.le_refl 0, Nat.le_refl 0⟩ (Nat.le_of_ble_eq_true rfl) ?_
          refine jx_aload_n E dX2_nextToken_119 0 rfl ?_
          refine jx_geti (C := RX2) (T := TX2) (M := 7) (k := 2) E dX2_nextToken_120 (Nat.le_of_ble_eq_true rfl) s_X53 rfl iX2 (by decide) rfl (List.mem_cons_of_mem _ tw_101) rfl ?_
          refine jx_icmp_ne (tgt := 181) E dX2_nextToken_123 (by decide) (fun hc14 => ?_) (fun hc14 => ?_)
          · rw [if_neg hc14] at hF
            obtain rfl := Option.some.inj hF
            exact jx_vret E dX2_nextToken_181 rfl
          · rw [if_pos hc14] at hF
            refine jx_aload_n E dX2_nextToken_126 0 rfl ?_
            refine jx_aload_n E dX2_nextToken_127 0 rfl ?_
            refine jx_geti (C := RX2) (T := TX2) (M := 7) (k := 2) E dX2_nextToken_128 (Nat.le_of_ble_eq_true rfl) s_X53 rfl iX2 (by decide) rfl (List.mem_cons_of_mem _ tw_101) rfl ?_
            refine jx_iconst (x := 2) E dX2_nextToken_131 (by decide) ?_
            refine jx_icmp_ne (tgt := 164) E dX2_nextToken_132 (by decide) (fun hc15 => ?_) (fun hc15 => ?_)
            · rw [if_neg hc15] at hF
              refine jx_iconst (x := 0) E dX2_nextToken_164 (by decide) ?_
              refine jx_puti (C := RX2) (T := TX2) (M := 7) (k := 5) (ty := .int) E tyX2 dX2_nextToken_165 (Nat.le_of_ble_eq_true rfl) s_X53 rfl iX2 (by decide) rfl (List.mem_cons_of_mem _ tw_102) tyX2_ok nmX2 rfl (by decide +kernel) rfl rfl rfl ?_
              refine jx_aload_n E dX2_nextToken_168 0 rfl ?_
              refine jx_dup E dX2_nextToken_169 rfl ?_
              refine jx_geti (C := RX2) (T := TX2) (M := 7) (k := 4) E dX2_nextToken_170 (Nat.le_of_ble_eq_true rfl) s_X53 rfl iX2 (by decide) rfl (List.mem_cons_of_mem _ tw_94) rfl ?_
              refine jx_iconst (x := 1) E dX2_nextToken_173 (by decide) ?_
              refine jx_iadd E dX2_nextToken_174 ?_
              refine jx_puti (C := RX2) (T := TX2) (M := 7) (k := 4) (ty := .int) E tyX2 dX2_nextToken_175 (Nat.le_of_ble_eq_true rfl) s_X53 rfl iX2 (by decide) rfl (List.mem_cons_of_mem _ tw_94) tyX2_ok nmX2 rfl (by decide +kernel) rfl rfl rfl ?_
              refine jx_goto (tgt := 100) E dX2_nextToken_178 (by decide) ?_
              refine jx_sub [0] rfl ?_
              exact ih.2  (jx_up (jx_up v13 53 5 0) 53 4 (((jx_up v13 53 5 0) 53 4) + 1)) hF
            · rw [if_pos hc15] at hF
              refine jx_sipush (x := 1000) E dX2_nextToken_135 (by decide) ?_
              refine jx_bipush (x := 10) E dX2_nextToken_138 (by decide) ?_
              refine jx_aload_n E dX2_nextToken_140 0 rfl ?_
              refine jx_geti (C := RX2) (T := TX2) (M := 7) (k := 5) E dX2_nextToken_141 (Nat.le_of_ble_eq_true rfl) s_X53 rfl iX2 (by decide) rfl (List.mem_cons_of_mem _ tw_102) rfl ?_
              refine jx_imul E dX2_nextToken_144 ?_
              refine jx_aload_n E dX2_nextToken_145 0 rfl ?_
              refine jx_getr (C := RX2) (T := TX2) (M := 7) (k := 0) E dX2_nextToken_146 (Nat.le_of_ble_eq_true rfl) s_X53 rfl iX2 (by decide) rfl (List.mem_cons_of_mem _ tw_93) rfl ?_
              refine jx_aload_n E dX2_nextToken_149 0 rfl ?_
              refine jx_geti (C := RX2) (T := TX2) (M := 7) (k := 4) E dX2_nextToken_150 (Nat.le_of_ble_eq_true rfl) s_X53 rfl iX2 (by decide) rfl (List.mem_cons_of_mem _ tw_94) rfl ?_
              obtain ⟨hg16, hF⟩ := jx_guard hF
              refine jx_iald (h := 54) (j := (Int32.toNatClampNeg (v13 53 4))) E dX2_nextToken_153 (Nat.le_of_ble_eq_true rfl) s_X54 hg16 rfl ?_
              refine jx_iadd E dX2_nextToken_154 ?_
              refine jx_bipush (x := 48) E dX2_nextToken_155 (by decide) ?_
              refine jx_isub E dX2_nextToken_157 ?_
              obtain ⟨⟨r17, v17⟩, hc17, hF⟩ := jx_bind hF
              try dsimp only at hF
              refine jx_callTi (As := [.int 1000, .int (((10 * (v13 53 5)) + (v13 54 (Int32.toNatClampNeg (v13 53 4)))) - 48)]) (st := [.ref (ad 53)]) E dX2_nextToken_158 2 rfl (k_J9_min_7cf53 hI 1000 (((10 * (v13 53 5)) + (v13 54 (Int32.toNatClampNeg (v13 53 4)))) - 48) v13 r17 v17 hc17) (gb_N tw_34) rfl rfl rfl (List.mem_cons_of_mem _ tw_103) (List.mem_cons_of_mem _ tw_36) (List.mem_cons_of_mem _ tw_37) dd_J9_min_7cf53.2 rfl ⟨by decide, by decide⟩ ⟨Nat.le_refl 0, Nat.le_refl 0⟩ (Nat.le_of_ble_eq_true rfl) ?_
              refine jx_goto (tgt := 165) E dX2_nextToken_161 (by decide) ?_
              refine jx_puti (C := RX2) (T := TX2) (M := 7) (k := 5) (ty := .int) E tyX2 dX2_nextToken_165 (Nat.le_of_ble_eq_true rfl) s_X53 rfl iX2 (by decide) rfl (List.mem_cons_of_mem _ tw_102) tyX2_ok nmX2 rfl (by decide +kernel) rfl rfl rfl ?_
              refine jx_aload_n E dX2_nextToken_168 0 rfl ?_
              refine jx_dup E dX2_nextToken_169 rfl ?_
              refine jx_geti (C := RX2) (T := TX2) (M := 7) (k := 4) E dX2_nextToken_170 (Nat.le_of_ble_eq_true rfl) s_X53 rfl iX2 (by decide) rfl (List.mem_cons_of_mem _ tw_94) rfl ?_
              refine jx_iconst (x := 1) E dX2_nextToken_173 (by decide) ?_
              refine jx_iadd E dX2_nextToken_174 ?_
              refine jx_puti (C := RX2) (T := TX2) (M := 7) (k := 4) (ty := .int) E tyX2 dX2_nextToken_175 (Nat.le_of_ble_eq_true rfl) s_X53 rfl iX2 (by decide) rfl (List.mem_cons_of_mem _ tw_94) tyX2_ok nmX2 rfl (by decide +kernel) rfl rfl rfl ?_
              refine jx_goto (tgt := 100) E dX2_nextToken_178 (by decide) ?_
              refine jx_sub [0] rfl ?_
              exact ih.2  (jx_up (jx_up v17 53 5 r17) 53 4 (((jx_up v17 53 5 r17) 53 4) + 1)) hF
  refine jx_sub [0] rfl ?_
  exact (key 100000).1  v hF
def f_X2_isWord_L (w1 : Nat) : Nat → Int32 → jx_V → Option (Int32 × jx_V)
  | 0, _, _ => none
  | n + 1, x2, v => ((f_J0_length_8abf5 w1 v).bind (fun (r4, v4) => (if r4 ≤ x2 then (some (1, v4)) else (if (((v4 53 3) + x2) < 0 ∨ 120 ≤ Int32.toNatClampNeg ((v4 53 3) + x2)) then none else ((f_J0_charAt_5068e w1 x2 v4).bind (fun (r7, v7) => (if (v4 54 (Int32.toNatClampNeg ((v4 53 3) + x2))) = r7 then (f_X2_isWord_L w1 n (x2 + 1) v7) else (some (0, v7)))))))))
def f_X2_isWord (w1 : Nat) (v : jx_V) : Option (Int32 × jx_V) := (if (v 53 2) = 1 then ((f_J0_length_8abf5 w1 v).bind (fun (r2, v2) => (if ((v 53 4) - (v 53 3)) = r2 then (f_X2_isWord_L w1 100000 0 v2) else (some (0, v2))))) else (some (0, v)))
def rm_X2_isWord : Room := { frames := 4, cells := 0, slots := 0, locals := 85 }
set_option maxHeartbeats 4000000 in
set_option maxRecDepth 100000 in
theorem k_X2_isWord {l : Launch} {D : va_G} {cI cJ : ClassId} {ad : Nat → Nat} {A : Nat → Prop} {adK adV : Nat → Nat} (hI : jx_inj 67 ad A) (w1 : Nat) (hw1 : w1 < 17) (v : jx_V) (r : Int32) (v' : jx_V) (hF : f_X2_isWord w1 v = some (r, v')) : jx_Ci l D vwCl 67 cI cJ ad shX A (ex_X adK adV A) yX2_isWord (Cond.code yX2_isWord cX2_isWord 3 (some .boolean) :: bigT) rm_X2_isWord [.ref (ad 53), .ref (adK w1)] v r v' := by
  unfold f_X2_isWord at hF
  refine jx_enteri bigT RX2 cX2_isWord 3 (some .boolean) [(0, .ref (ad 53)), (1, .ref (adK w1))] hI (ex_X_ok adK adV A) (by decide +kernel) rfl (Nat.le_of_ble_eq_true rfl) rfl rfl ?_
  intro p e s m args below meth c E
  have iX2 : ∀ w ∈ u_ws RX2 TX2 7, w ∈ (Cond.code yX2_isWord cX2_isWord 3 (some .boolean) :: bigT) := fun w h => List.mem_cons_of_mem _ (uw_X2 w h)
  have key : ∀ n : Nat, (∀ (x2 : Int32) (v : jx_V), f_X2_isWord_L w1 n  x2 v = some (r, v') → jx_J p l e rm_X2_isWord s m args below meth c D vwCl 67 cI cJ ad shX A 0 0 3 (MQ below (va_Qi (fun (r1 : Int32) (_ : Unit) => r1 = r) (fun _ t => va_P D vwCl (jx_ws 67 cI cJ ad shX v') t.heap) A) args s 0 0 A) v 28 [(0, .ref (ad 53)), (1, .ref (adK w1)), (2, .int x2)] []) := by
    intro n
    induction n with
    | zero =>
      exact (fun _ _ h => by cases h)
    | succ n ih =>
      intro x2 v hF
      rw [f_X2_isWord_L] at hF
      refine jx_iload_n E dX2_isWord_28 2 rfl ?_
      refine jx_aload_n E dX2_isWord_29 1 rfl ?_
      obtain ⟨⟨r4, v4⟩, hc4, hF⟩ := jx_bind hF
      try dsimp only at hF
      refine jx_callVSi (As := []) (st := [.int x2]) (q := adK w1) E dX2_isWord_30 0 rfl (k_J0_length_8abf5 hI w1 hw1 v r4 v4 hc4) (gb_V (List.mem_cons_of_mem _ tw_105) (List.mem_cons_of_mem _ tw_106) (List.mem_cons_of_mem _ tw_107) (List.mem_cons_of_mem _ tw_17) tw_104) rfl rfl rfl dd_J0_length_8abf5 rfl (fun H locs hS => vk_recv (jx_ex E).2.2.2.1 hw1 hS) ⟨by decide, by decide⟩ ⟨Nat.le_refl 0, Nat.le_refl 0⟩ (Nat.le_of_ble_eq_true rfl) ?_
      refine jx_icmp_ge (tgt := 63) E dX2_isWord_33 (by decide) (fun hc5 => ?_) (fun hc5 => ?_)
      · rw [if_pos hc5] at hF
        refine jx_iconst (x := 1) E dX2_isWord_63 (by decide) ?_
        obtain ⟨rfl, rfl⟩ := jx_out hF
        exact jx_zret E dX2_isWord_64 rfl (Or.inr rfl)
      · rw [if_neg hc5] at hF
        refine jx_aload_n E dX2_isWord_36 0 rfl ?_
        refine jx_getr (C := RX2) (T := TX2) (M := 7) (k := 0) E dX2_isWord_37 (Nat.le_of_ble_eq_true rfl) s_X53 rfl iX2 (by decide) rfl (List.mem_cons_of_mem _ tw_93) rfl ?_
        refine jx_aload_n E dX2_isWord_40 0 rfl ?_
        refine jx_geti (C := RX2) (T := TX2) (M := 7) (k := 3) E dX2_isWord_41 (Nat.le_of_ble_eq_true rfl) s_X53 rfl iX2 (by decide) rfl (List.mem_cons_of_mem _ tw_95) rfl ?_
        refine jx_iload_n E dX2_isWord_44 2 rfl ?_
        refine jx_iadd E dX2_isWord_45 ?_
        obtain ⟨hg6, hF⟩ := jx_guard hF
        refine jx_iald (h := 54) (j := (Int32.toNatClampNeg ((v4 53 3) + x2))) E dX2_isWord_46 (Nat.le_of_ble_eq_true rfl) s_X54 hg6 rfl ?_
        refine jx_aload_n E dX2_isWord_47 1 rfl ?_
        refine jx_iload_n E dX2_isWord_48 2 rfl ?_
        obtain ⟨⟨r7, v7⟩, hc7, hF⟩ := jx_bind hF
        try dsimp only at hF
        refine jx_callVSi (As := [.int x2]) (st := [.int (v4 54 (Int32.toNatClampNeg ((v4 53 3) + x2)))]) (q := adK w1) E dX2_isWord_49 1 rfl (k_J0_charAt_5068e hI w1 hw1 x2 v4 r7 v7 hc7) (gb_V (List.mem_cons_of_mem _ tw_109) (List.mem_cons_of_mem _ tw_110) (List.mem_cons_of_mem _ tw_111) (List.mem_cons_of_mem _ tw_17) tw_108) rfl rfl rfl dd_J0_charAt_5068e rfl (fun H locs hS => vk_recv (jx_ex E).2.2.2.1 hw1 hS) ⟨by decide, by decide⟩ ⟨Nat.le_refl 0, Nat.le_refl 0⟩ (Nat.le_of_ble_eq_true rfl) ?_
        refine jx_icmp_eq (tgt := 57) E dX2_isWord_52 (by decide) (fun hc8 => ?_) (fun hc8 => ?_)
        · rw [if_pos hc8] at hF
          refine jx_iinc (y := (x2 + 1)) (lv' := [(2, .int (x2 + 1)), (0, .ref (ad 53)), (1, .ref (adK w1))]) E dX2_isWord_57 2 rfl rfl (by decide) rfl ?_
          refine jx_goto (tgt := 28) E dX2_isWord_60 (by decide) ?_
          refine jx_sub [1, 2, 0] rfl ?_
          exact ih (x2 + 1) v7 hF
        · rw [if_neg hc8] at hF
          refine jx_iconst (x := 0) E dX2_isWord_55 (by decide) ?_
          obtain ⟨rfl, rfl⟩ := jx_out hF
          exact jx_zret E dX2_isWord_56 rfl (Or.inl rfl)
  refine jx_aload_n E dX2_isWord_0 0 rfl ?_
  refine jx_geti (C := RX2) (T := TX2) (M := 7) (k := 2) E dX2_isWord_1 (Nat.le_of_ble_eq_true rfl) s_X53 rfl iX2 (by decide) rfl (List.mem_cons_of_mem _ tw_101) rfl ?_
  refine jx_iconst (x := 1) E dX2_isWord_4 (by decide) ?_
  refine jx_icmp_ne (tgt := 24) E dX2_isWord_5 (by decide) (fun hc1 => ?_) (fun hc1 => ?_)
  · rw [if_neg hc1] at hF
    refine jx_iconst (x := 0) E dX2_isWord_24 (by decide) ?_
    obtain ⟨rfl, rfl⟩ := jx_out hF
    exact jx_zret E dX2_isWord_25 rfl (Or.inl rfl)
  · rw [if_pos hc1] at hF
    refine jx_aload_n E dX2_isWord_8 0 rfl ?_
    refine jx_geti (C := RX2) (T := TX2) (M := 7) (k := 4) E dX2_isWord_9 (Nat.le_of_ble_eq_true rfl) s_X53 rfl iX2 (by decide) rfl (List.mem_cons_of_mem _ tw_94) rfl ?_
    refine jx_aload_n E dX2_isWord_12 0 rfl ?_
    refine jx_geti (C := RX2) (T := TX2) (M := 7) (k := 3) E dX2_isWord_13 (Nat.le_of_ble_eq_true rfl) s_X53 rfl iX2 (by decide) rfl (List.mem_cons_of_mem _ tw_95) rfl ?_
    refine jx_isub E dX2_isWord_16 ?_
    refine jx_aload_n E dX2_isWord_17 1 rfl ?_
    obtain ⟨⟨r2, v2⟩, hc2, hF⟩ := jx_bind hF
    try dsimp only at hF
    refine jx_callVSi (As := []) (st := [.int ((v 53 4) - (v 53 3))]) (q := adK w1) E dX2_isWord_18 0 rfl (k_J0_length_8abf5 hI w1 hw1 v r2 v2 hc2) (gb_V (List.mem_cons_of_mem _ tw_105) (List.mem_cons_of_mem _ tw_106) (List.mem_cons_of_mem _ tw_107) (List.mem_cons_of_mem _ tw_17) tw_104) rfl rfl rfl dd_J0_length_8abf5 rfl (fun H locs hS => vk_recv (jx_ex E).2.2.2.1 hw1 hS) ⟨by decide, by decide⟩ ⟨Nat.le_refl 0, Nat.le_refl 0⟩ (Nat.le_of_ble_eq_true rfl) ?_
    refine jx_icmp_eq (tgt := 26) E dX2_isWord_21 (by decide) (fun hc3 => ?_) (fun hc3 => ?_)
    · rw [if_pos hc3] at hF
      refine jx_iconst (x := 0) E dX2_isWord_26 (by decide) ?_
      refine jx_istore_n (lv' := [(2, .int 0), (0, .ref (ad 53)), (1, .ref (adK w1))]) E dX2_isWord_27 (by decide) rfl ?_
      refine jx_sub [1, 2, 0] rfl ?_
      exact (key 100000) 0 v2 hF
    · rw [if_neg hc3] at hF
      refine jx_iconst (x := 0) E dX2_isWord_24 (by decide) ?_
      obtain ⟨rfl, rfl⟩ := jx_out hF
      exact jx_zret E dX2_isWord_25 rfl (Or.inl rfl)
def f_X2_kindOfWord  (v : jx_V) : Option (Int32 × jx_V) := ((f_X2_isWord 0 v).bind (fun (r1, v1) => (if r1 = 0 then ((f_X2_isWord 1 v1).bind (fun (r3, v3) => (if r3 = 0 then ((f_X2_isWord 2 v3).bind (fun (r5, v5) => (if r5 = 0 then ((f_X2_isWord 3 v5).bind (fun (r7, v7) => (if r7 = 0 then ((f_X2_isWord 4 v7).bind (fun (r9, v9) => (if r9 = 0 then ((f_X2_isWord 5 v9).bind (fun (r11, v11) => (if r11 = 0 then ((f_X2_isWord 6 v11).bind (fun (r13, v13) => (if r13 = 0 then (some ((-1), v13)) else (some (6, v13))))) else (some (5, v11))))) else (some (4, v9))))) else (some (3, v7))))) else (some (2, v5))))) else (some (1, v3))))) else (some (0, v1)))))
def rm_X2_kindOfWord : Room := { frames := 5, cells := 0, slots := 0, locals := 107 }
set_option maxHeartbeats 4000000 in
set_option maxRecDepth 100000 in
theorem k_X2_kindOfWord {l : Launch} {D : va_G} {cI cJ : ClassId} {ad : Nat → Nat} {A : Nat → Prop} {adK adV : Nat → Nat} (hI : jx_inj 67 ad A)  (v : jx_V) (r : Int32) (v' : jx_V) (hF : f_X2_kindOfWord  v = some (r, v')) : jx_Ci l D vwCl 67 cI cJ ad shX A (ex_X adK adV A) yX2_kindOfWord (Cond.code yX2_kindOfWord cX2_kindOfWord 1 (some .int) :: bigT) rm_X2_kindOfWord [.ref (ad 53)] v r v' := by
  unfold f_X2_kindOfWord at hF
  refine jx_enteri bigT RX2 cX2_kindOfWord 1 (some .int) [(0, .ref (ad 53))] hI (ex_X_ok adK adV A) (by decide +kernel) rfl (Nat.le_of_ble_eq_true rfl) rfl rfl ?_
  intro p e s m args below meth c E
  refine jx_aload_n E dX2_kindOfWord_0 0 rfl ?_
  refine jx_ldcS (q := adK 0) E dX2_kindOfWord_1 ((jx_ex E).2.2.1 0 (by decide)) ?_
  obtain ⟨⟨r1, v1⟩, hc1, hF⟩ := jx_bind hF
  try dsimp only at hF
  refine jx_callVi (As := [.ref (adK 0)]) (st := []) (h := 53) E dX2_kindOfWord_3 1 rfl (k_X2_isWord hI 0 (by decide) v r1 v1 hc1) (gb_V (List.mem_cons_of_mem _ tw_113) (List.mem_cons_of_mem _ tw_114) (List.mem_cons_of_mem _ tw_115) (List.mem_cons_of_mem _ tw_100) tw_112) rfl rfl rfl dd_X2_isWord rfl (Nat.le_of_ble_eq_true rfl) s_X53 rfl ⟨by decide, by decide⟩ ⟨Nat.le_refl 0, Nat.le_refl 0⟩ (Nat.le_of_ble_eq_true rfl) ?_
  refine jx_if_eq (tgt := 11) E dX2_kindOfWord_6 (by decide) (fun hc2 => ?_) (fun hc2 => ?_)
  · rw [if_pos hc2] at hF
    refine jx_aload_n E dX2_kindOfWord_11 0 rfl ?_
    refine jx_ldcS (q := adK 1) E dX2_kindOfWord_12 ((jx_ex E).2.2.1 1 (by decide)) ?_
    obtain ⟨⟨r3, v3⟩, hc3, hF⟩ := jx_bind hF
    try dsimp only at hF
    refine jx_callVi (As := [.ref (adK 1)]) (st := []) (h := 53) E dX2_kindOfWord_14 1 rfl (k_X2_isWord hI 1 (by decide) v1 r3 v3 hc3) (gb_V (List.mem_cons_of_mem _ tw_113) (List.mem_cons_of_mem _ tw_114) (List.mem_cons_of_mem _ tw_115) (List.mem_cons_of_mem _ tw_100) tw_112) rfl rfl rfl dd_X2_isWord rfl (Nat.le_of_ble_eq_true rfl) s_X53 rfl ⟨by decide, by decide⟩ ⟨Nat.le_refl 0, Nat.le_refl 0⟩ (Nat.le_of_ble_eq_true rfl) ?_
    refine jx_if_eq (tgt := 22) E dX2_kindOfWord_17 (by decide) (fun hc4 => ?_) (fun hc4 => ?_)
    · rw [if_pos hc4] at hF
      refine jx_aload_n E dX2_kindOfWord_22 0 rfl ?_
      refine jx_ldcS (q := adK 2) E dX2_kindOfWord_23 ((jx_ex E).2.2.1 2 (by decide)) ?_
      obtain ⟨⟨r5, v5⟩, hc5, hF⟩ := jx_bind hF
      try dsimp only at hF
      refine jx_callVi (As := [.ref (adK 2)]) (st := []) (h := 53) E dX2_kindOfWord_25 1 rfl (k_X2_isWord hI 2 (by decide) v3 r5 v5 hc5) (gb_V (List.mem_cons_of_mem _ tw_113) (List.mem_cons_of_mem _ tw_114) (List.mem_cons_of_mem _ tw_115) (List.mem_cons_of_mem _ tw_100) tw_112) rfl rfl rfl dd_X2_isWord rfl (Nat.le_of_ble_eq_true rfl) s_X53 rfl ⟨by decide, by decide⟩ ⟨Nat.le_refl 0, Nat.le_refl 0⟩ (Nat.le_of_ble_eq_true rfl) ?_
      refine jx_if_eq (tgt := 33) E dX2_kindOfWord_28 (by decide) (fun hc6 => ?_) (fun hc6 => ?_)
      · rw [if_pos hc6] at hF
        refine jx_aload_n E dX2_kindOfWord_33 0 rfl ?_
        refine jx_ldcS (q := adK 3) E dX2_kindOfWord_34 ((jx_ex E).2.2.1 3 (by decide)) ?_
        obtain ⟨⟨r7, v7⟩, hc7, hF⟩ := jx_bind hF
        try dsimp only at hF
        refine jx_callVi (As := [.ref (adK 3)]) (st := []) (h := 53) E dX2_kindOfWord_36 1 rfl (k_X2_isWord hI 3 (by decide) v5 r7 v7 hc7) (gb_V (List.mem_cons_of_mem _ tw_113) (List.mem_cons_of_mem _ tw_114) (List.mem_cons_of_mem _ tw_115) (List.mem_cons_of_mem _ tw_100) tw_112) rfl rfl rfl dd_X2_isWord rfl (Nat.le_of_ble_eq_true rfl) s_X53 rfl ⟨by decide, by decide⟩ ⟨Nat.le_refl 0, Nat.le_refl 0⟩ (Nat.le_of_ble_eq_true rfl) ?_
        refine jx_if_eq (tgt := 44) E dX2_kindOfWord_39 (by decide) (fun hc8 => ?_) (fun hc8 => ?_)
        · rw [if_pos hc8] at hF
          refine jx_aload_n E dX2_kindOfWord_44 0 rfl ?_
          refine jx_ldcS (q := adK 4) E dX2_kindOfWord_45 ((jx_ex E).2.2.1 4 (by decide)) ?_
          obtain ⟨⟨r9, v9⟩, hc9, hF⟩ := jx_bind hF
          try dsimp only at hF
          refine jx_callVi (As := [.ref (adK 4)]) (st := []) (h := 53) E dX2_kindOfWord_47 1 rfl (k_X2_isWord hI 4 (by decide) v7 r9 v9 hc9) (gb_V (List.mem_cons_of_mem _ tw_113) (List.mem_cons_of_mem _ tw_114) (List.mem_cons_of_mem _ tw_115) (List.mem_cons_of_mem _ tw_100) tw_112) rfl rfl rfl dd_X2_isWord rfl (Nat.le_of_ble_eq_true rfl) s_X53 rfl ⟨by decide, by decide⟩ ⟨Nat.le_refl 0, Nat.le_refl 0⟩ (Nat.le_of_ble_eq_true rfl) ?_
          refine jx_if_eq (tgt := 55) E dX2_kindOfWord_50 (by decide) (fun hc10 => ?_) (fun hc10 => ?_)
          · rw [if_pos hc10] at hF
            refine jx_aload_n E dX2_kindOfWord_55 0 rfl ?_
            refine jx_ldcS (q := adK 5) E dX2_kindOfWord_56 ((jx_ex E).2.2.1 5 (by decide)) ?_
            obtain ⟨⟨r11, v11⟩, hc11, hF⟩ := jx_bind hF
            try dsimp only at hF
            refine jx_callVi (As := [.ref (adK 5)]) (st := []) (h := 53) E dX2_kindOfWord_58 1 rfl (k_X2_isWord hI 5 (by decide) v9 r11 v11 hc11) (gb_V (List.mem_cons_of_mem _ tw_113) (List.mem_cons_of_mem _ tw_114) (List.mem_cons_of_mem _ tw_115) (List.mem_cons_of_mem _ tw_100) tw_112) rfl rfl rfl dd_X2_isWord rfl (Nat.le_of_ble_eq_true rfl) s_X53 rfl ⟨by decide, by decide⟩ ⟨Nat.le_refl 0, Nat.le_refl 0⟩ (Nat.le_of_ble_eq_true rfl) ?_
            refine jx_if_eq (tgt := 66) E dX2_kindOfWord_61 (by decide) (fun hc12 => ?_) (fun hc12 => ?_)
            · rw [if_pos hc12] at hF
              refine jx_aload_n E dX2_kindOfWord_66 0 rfl ?_
              refine jx_ldcS (q := adK 6) E dX2_kindOfWord_67 ((jx_ex E).2.2.1 6 (by decide)) ?_
              obtain ⟨⟨r13, v13⟩, hc13, hF⟩ := jx_bind hF
              try dsimp only at hF
              refine jx_callVi (As := [.ref (adK 6)]) (st := []) (h := 53) E dX2_kindOfWord_69 1 rfl (k_X2_isWord hI 6 (by decide) v11 r13 v13 hc13) (gb_V (List.mem_cons_of_mem _ tw_113) (List.mem_cons_of_mem _ tw_114) (List.mem_cons_of_mem _ tw_115) (List.mem_cons_of_mem _ tw_100) tw_112) rfl rfl rfl dd_X2_isWord rfl (Nat.le_of_ble_eq_true rfl) s_X53 rfl ⟨by decide, by decide⟩ ⟨Nat.le_refl 0, Nat.le_refl 0⟩ (Nat.le_of_ble_eq_true rfl) ?_
              refine jx_if_eq (tgt := 80) E dX2_kindOfWord_72 (by decide) (fun hc14 => ?_) (fun hc14 => ?_)
              · rw [if_pos hc14] at hF
                refine jx_iconst (x := -1) E dX2_kindOfWord_80 (by decide) ?_
                obtain ⟨rfl, rfl⟩ := jx_out hF
                exact jx_iret E dX2_kindOfWord_81 rfl
              · rw [if_neg hc14] at hF
                refine jx_bipush (x := 6) E dX2_kindOfWord_75 (by decide) ?_
                refine jx_goto (tgt := 81) E dX2_kindOfWord_77 (by decide) ?_
                obtain ⟨rfl, rfl⟩ := jx_out hF
                exact jx_iret E dX2_kindOfWord_81 rfl
            · rw [if_neg hc12] at hF
              refine jx_iconst (x := 5) E dX2_kindOfWord_64 (by decide) ?_
              obtain ⟨rfl, rfl⟩ := jx_out hF
              exact jx_iret E dX2_kindOfWord_65 rfl
          · rw [if_neg hc10] at hF
            refine jx_iconst (x := 4) E dX2_kindOfWord_53 (by decide) ?_
            obtain ⟨rfl, rfl⟩ := jx_out hF
            exact jx_iret E dX2_kindOfWord_54 rfl
        · rw [if_neg hc8] at hF
          refine jx_iconst (x := 3) E dX2_kindOfWord_42 (by decide) ?_
          obtain ⟨rfl, rfl⟩ := jx_out hF
          exact jx_iret E dX2_kindOfWord_43 rfl
      · rw [if_neg hc6] at hF
        refine jx_iconst (x := 2) E dX2_kindOfWord_31 (by decide) ?_
        obtain ⟨rfl, rfl⟩ := jx_out hF
        exact jx_iret E dX2_kindOfWord_32 rfl
    · rw [if_neg hc4] at hF
      refine jx_iconst (x := 1) E dX2_kindOfWord_20 (by decide) ?_
      obtain ⟨rfl, rfl⟩ := jx_out hF
      exact jx_iret E dX2_kindOfWord_21 rfl
  · rw [if_neg hc2] at hF
    refine jx_iconst (x := 0) E dX2_kindOfWord_9 (by decide) ?_
    obtain ⟨rfl, rfl⟩ := jx_out hF
    exact jx_iret E dX2_kindOfWord_10 rfl
def f_X2_failHere  (v : jx_V) : Option (jx_V) := (if 0 ≤ (v 53 6) then (some v) else (some (jx_up v 53 6 (v 53 3))))
def rm_X2_failHere : Room := { frames := 0, cells := 0, slots := 0, locals := 0 }
set_option maxHeartbeats 4000000 in
set_option maxRecDepth 100000 in
theorem k_X2_failHere {l : Launch} {D : va_G} {cI cJ : ClassId} {ad : Nat → Nat} {A : Nat → Prop} {adK adV : Nat → Nat} (hI : jx_inj 67 ad A)  (v : jx_V) (v' : jx_V) (hF : f_X2_failHere  v = some v') : jx_Cv l D vwCl 67 cI cJ ad shX A (ex_X adK adV A) yX2_failHere (Cond.code yX2_failHere cX2_failHere 1 (none) :: bigT) rm_X2_failHere [.ref (ad 53)] v v' := by
  unfold f_X2_failHere at hF
  refine jx_enterv bigT RX2 cX2_failHere 1 (none) [(0, .ref (ad 53))] hI (ex_X_ok adK adV A) (by decide +kernel) rfl (Nat.le_of_ble_eq_true rfl) rfl rfl ?_
  intro p e s m args below meth c E
  have iX2 : ∀ w ∈ u_ws RX2 TX2 7, w ∈ (Cond.code yX2_failHere cX2_failHere 1 (none) :: bigT) := fun w h => List.mem_cons_of_mem _ (uw_X2 w h)
  refine jx_aload_n E dX2_failHere_0 0 rfl ?_
  refine jx_geti (C := RX2) (T := TX2) (M := 7) (k := 6) E dX2_failHere_1 (Nat.le_of_ble_eq_true rfl) s_X53 rfl iX2 (by decide) rfl (List.mem_cons_of_mem _ tw_116) rfl ?_
  refine jx_if_ge (tgt := 15) E dX2_failHere_4 (by decide) (fun hc1 => ?_) (fun hc1 => ?_)
  · rw [if_pos hc1] at hF
    obtain rfl := Option.some.inj hF
    exact jx_vret E dX2_failHere_15 rfl
  · rw [if_neg hc1] at hF
    refine jx_aload_n E dX2_failHere_7 0 rfl ?_
    refine jx_aload_n E dX2_failHere_8 0 rfl ?_
    refine jx_geti (C := RX2) (T := TX2) (M := 7) (k := 3) E dX2_failHere_9 (Nat.le_of_ble_eq_true rfl) s_X53 rfl iX2 (by decide) rfl (List.mem_cons_of_mem _ tw_95) rfl ?_
    refine jx_puti (C := RX2) (T := TX2) (M := 7) (k := 6) (ty := .int) E tyX2 dX2_failHere_12 (Nat.le_of_ble_eq_true rfl) s_X53 rfl iX2 (by decide) rfl (List.mem_cons_of_mem _ tw_116) tyX2_ok nmX2 rfl (by decide +kernel) rfl rfl rfl ?_
    obtain rfl := Option.some.inj hF
    exact jx_vret E dX2_failHere_15 rfl
def f_X2_takeWord (w1 : Nat) (v : jx_V) : Option (jx_V) := (if 0 ≤ (v 53 6) then ((f_X2_failHere v).bind (fun v2 => (some v2))) else ((f_X2_isWord w1 v).bind (fun (r3, v3) => (if r3 = 0 then ((f_X2_failHere v3).bind (fun v5 => (some v5))) else ((f_X2_nextToken v3).bind (fun v6 => (some v6)))))))
def rm_X2_takeWord : Room := { frames := 5, cells := 0, slots := 0, locals := 107 }
set_option maxHeartbeats 4000000 in
set_option maxRecDepth 100000 in
theorem k_X2_takeWord {l : Launch} {D : va_G} {cI cJ : ClassId} {ad : Nat → Nat} {A : Nat → Prop} {adK adV : Nat → Nat} (hI : jx_inj 67 ad A) (w1 : Nat) (hw1 : w1 < 17) (v : jx_V) (v' : jx_V) (hF : f_X2_takeWord w1 v = some v') : jx_Cv l D vwCl 67 cI cJ ad shX A (ex_X adK adV A) yX2_takeWord (Cond.code yX2_takeWord cX2_takeWord 2 (none) :: bigT) rm_X2_takeWord [.ref (ad 53), .ref (adK w1)] v v' := by
  unfold f_X2_takeWord at hF
  refine jx_enterv bigT RX2 cX2_takeWord 2 (none) [(0, .ref (ad 53)), (1, .ref (adK w1))] hI (ex_X_ok adK adV A) (by decide +kernel) rfl (Nat.le_of_ble_eq_true rfl) rfl rfl ?_
  intro p e s m args below meth c E
  have iX2 : ∀ w ∈ u_ws RX2 TX2 7, w ∈ (Cond.code yX2_takeWord cX2_takeWord 2 (none) :: bigT) := fun w h => List.mem_cons_of_mem _ (uw_X2 w h)
  refine jx_aload_n E dX2_takeWord_0 0 rfl ?_
  refine jx_geti (C := RX2) (T := TX2) (M := 7) (k := 6) E dX2_takeWord_1 (Nat.le_of_ble_eq_true rfl) s_X53 rfl iX2 (by decide) rfl (List.mem_cons_of_mem _ tw_116) rfl ?_
  refine jx_if_ge (tgt := 22) E dX2_takeWord_4 (by decide) (fun hc1 => ?_) (fun hc1 => ?_)
  · rw [if_pos hc1] at hF
    refine jx_aload_n E dX2_takeWord_22 0 rfl ?_
    obtain ⟨v2, hc2, hF⟩ := jx_bind hF
    try dsimp only at hF
    refine jx_callVv (As := []) (st := []) (h := 53) E dX2_takeWord_23 0 rfl (k_X2_failHere hI  v v2 hc2) (gb_V (List.mem_cons_of_mem _ tw_118) (List.mem_cons_of_mem _ tw_119) (List.mem_cons_of_mem _ tw_120) (List.mem_cons_of_mem _ tw_100) tw_117) rfl rfl rfl dd_X2_failHere rfl (Nat.le_of_ble_eq_true rfl) s_X53 rfl ⟨by decide, by decide⟩ ⟨Nat.le_refl 0, Nat.le_refl 0⟩ (Nat.le_of_ble_eq_true rfl) ?_
    obtain rfl := Option.some.inj hF
    exact jx_vret E dX2_takeWord_26 rfl
  · rw [if_neg hc1] at hF
    refine jx_aload_n E dX2_takeWord_7 0 rfl ?_
    refine jx_aload_n E dX2_takeWord_8 1 rfl ?_
    obtain ⟨⟨r3, v3⟩, hc3, hF⟩ := jx_bind hF
    try dsimp only at hF
    refine jx_callVi (As := [.ref (adK w1)]) (st := []) (h := 53) E dX2_takeWord_9 1 rfl (k_X2_isWord hI w1 hw1 v r3 v3 hc3) (gb_V (List.mem_cons_of_mem _ tw_113) (List.mem_cons_of_mem _ tw_114) (List.mem_cons_of_mem _ tw_115) (List.mem_cons_of_mem _ tw_100) tw_112) rfl rfl rfl dd_X2_isWord rfl (Nat.le_of_ble_eq_true rfl) s_X53 rfl ⟨by decide, by decide⟩ ⟨Nat.le_refl 0, Nat.le_refl 0⟩ (Nat.le_of_ble_eq_true rfl) ?_
    refine jx_if_eq (tgt := 22) E dX2_takeWord_12 (by decide) (fun hc4 => ?_) (fun hc4 => ?_)
    · rw [if_pos hc4] at hF
      refine jx_aload_n E dX2_takeWord_22 0 rfl ?_
      obtain ⟨v5, hc5, hF⟩ := jx_bind hF
      try dsimp only at hF
      refine jx_callVv (As := []) (st := []) (h := 53) E dX2_takeWord_23 0 rfl (k_X2_failHere hI  v3 v5 hc5) (gb_V (List.mem_cons_of_mem _ tw_118) (List.mem_cons_of_mem _ tw_119) (List.mem_cons_of_mem _ tw_120) (List.mem_cons_of_mem _ tw_100) tw_117) rfl rfl rfl dd_X2_failHere rfl (Nat.le_of_ble_eq_true rfl) s_X53 rfl ⟨by decide, by decide⟩ ⟨Nat.le_refl 0, Nat.le_refl 0⟩ (Nat.le_of_ble_eq_true rfl) ?_
      obtain rfl := Option.some.inj hF
      exact jx_vret E dX2_takeWord_26 rfl
    · rw [if_neg hc4] at hF
      refine jx_aload_n E dX2_takeWord_15 0 rfl ?_
      obtain ⟨v6, hc6, hF⟩ := jx_bind hF
      try dsimp only at hF
      refine jx_callVv (As := []) (st := []) (h := 53) E dX2_takeWord_16 0 rfl (k_X2_nextToken hI  v3 v6 hc6) (gb_V (List.mem_cons_of_mem _ tw_122) (List.mem_cons_of_mem _ tw_123) (List.mem_cons_of_mem _ tw_124) (List.mem_cons_of_mem _ tw_100) tw_121) rfl rfl rfl dd_X2_nextToken rfl (Nat.le_of_ble_eq_true rfl) s_X53 rfl ⟨by decide, by decide⟩ ⟨Nat.le_refl 0, Nat.le_refl 0⟩ (Nat.le_of_ble_eq_true rfl) ?_
      refine jx_goto (tgt := 26) E dX2_takeWord_19 (by decide) ?_
      obtain rfl := Option.some.inj hF
      exact jx_vret E dX2_takeWord_26 rfl
def f_X2_takeLot (h1 : Nat) (x2 : Int32) (v : jx_V) : Option (Int32 × jx_V) := (if 0 ≤ (v 53 6) then ((f_X2_failHere v).bind (fun v2 => (some (0, v2)))) else (if (v 53 2) = 2 then (if 25 ≤ (v 53 5) then ((f_X2_failHere v).bind (fun v6 => (some (0, v6)))) else ((f_X3_isTaken h1 (v 53 5) v).bind (fun (r7, v7) => (if r7 = x2 then ((f_X2_nextToken v7).bind (fun v9 => (some ((v7 53 5), v9)))) else ((f_X2_failHere v7).bind (fun v10 => (some (0, v10)))))))) else ((f_X2_failHere v).bind (fun v4 => (some (0, v4))))))
def rm_X2_takeLot : Room := { frames := 2, cells := 0, slots := 0, locals := 42 }
set_option maxHeartbeats 4000000 in
set_option maxRecDepth 100000 in
theorem k_X2_takeLot {l : Launch} {D : va_G} {cI cJ : ClassId} {ad : Nat → Nat} {A : Nat → Prop} {adK adV : Nat → Nat} (hI : jx_inj 67 ad A) (h1 : Nat) (hT1 : jx_T h1) (x2 : Int32) (v : jx_V) (r : Int32) (v' : jx_V) (hF : f_X2_takeLot h1 x2 v = some (r, v')) : jx_Ci l D vwCl 67 cI cJ ad shX A (ex_X adK adV A) yX2_takeLot (Cond.code yX2_takeLot cX2_takeLot 4 (some .int) :: bigT) rm_X2_takeLot [.ref (ad 53), .ref (ad h1), .int x2] v r v' := by
  unfold f_X2_takeLot at hF
  refine jx_enteri bigT RX2 cX2_takeLot 4 (some .int) [(0, .ref (ad 53)), (1, .ref (ad h1)), (2, .int x2)] hI (ex_X_ok adK adV A) (by decide +kernel) rfl (Nat.le_of_ble_eq_true rfl) rfl rfl ?_
  intro p e s m args below meth c E
  have iX2 : ∀ w ∈ u_ws RX2 TX2 7, w ∈ (Cond.code yX2_takeLot cX2_takeLot 4 (some .int) :: bigT) := fun w h => List.mem_cons_of_mem _ (uw_X2 w h)
  refine jx_aload_n E dX2_takeLot_0 0 rfl ?_
  refine jx_geti (C := RX2) (T := TX2) (M := 7) (k := 6) E dX2_takeLot_1 (Nat.le_of_ble_eq_true rfl) s_X53 rfl iX2 (by decide) rfl (List.mem_cons_of_mem _ tw_116) rfl ?_
  refine jx_if_ge (tgt := 36) E dX2_takeLot_4 (by decide) (fun hc1 => ?_) (fun hc1 => ?_)
  · rw [if_pos hc1] at hF
    refine jx_aload_n E dX2_takeLot_36 0 rfl ?_
    obtain ⟨v2, hc2, hF⟩ := jx_bind hF
    try dsimp only at hF
    refine jx_callVv (As := []) (st := []) (h := 53) E dX2_takeLot_37 0 rfl (k_X2_failHere hI  v v2 hc2) (gb_V (List.mem_cons_of_mem _ tw_118) (List.mem_cons_of_mem _ tw_119) (List.mem_cons_of_mem _ tw_120) (List.mem_cons_of_mem _ tw_100) tw_117) rfl rfl rfl dd_X2_failHere rfl (Nat.le_of_ble_eq_true rfl) s_X53 rfl ⟨by decide, by decide⟩ ⟨Nat.le_refl 0, Nat.le_refl 0⟩ (Nat.le_of_ble_eq_true rfl) ?_
    refine jx_iconst (x := 0) E dX2_takeLot_40 (by decide) ?_
    obtain ⟨rfl, rfl⟩ := jx_out hF
    exact jx_iret E dX2_takeLot_41 rfl
  · rw [if_neg hc1] at hF
    refine jx_aload_n E dX2_takeLot_7 0 rfl ?_
    refine jx_geti (C := RX2) (T := TX2) (M := 7) (k := 2) E dX2_takeLot_8 (Nat.le_of_ble_eq_true rfl) s_X53 rfl iX2 (by decide) rfl (List.mem_cons_of_mem _ tw_101) rfl ?_
    refine jx_iconst (x := 2) E dX2_takeLot_11 (by decide) ?_
    refine jx_icmp_ne (tgt := 36) E dX2_takeLot_12 (by decide) (fun hc3 => ?_) (fun hc3 => ?_)
    · rw [if_neg hc3] at hF
      refine jx_aload_n E dX2_takeLot_36 0 rfl ?_
      obtain ⟨v4, hc4, hF⟩ := jx_bind hF
      try dsimp only at hF
      refine jx_callVv (As := []) (st := []) (h := 53) E dX2_takeLot_37 0 rfl (k_X2_failHere hI  v v4 hc4) (gb_V (List.mem_cons_of_mem _ tw_118) (List.mem_cons_of_mem _ tw_119) (List.mem_cons_of_mem _ tw_120) (List.mem_cons_of_mem _ tw_100) tw_117) rfl rfl rfl dd_X2_failHere rfl (Nat.le_of_ble_eq_true rfl) s_X53 rfl ⟨by decide, by decide⟩ ⟨Nat.le_refl 0, Nat.le_refl 0⟩ (Nat.le_of_ble_eq_true rfl) ?_
      refine jx_iconst (x := 0) E dX2_takeLot_40 (by decide) ?_
      obtain ⟨rfl, rfl⟩ := jx_out hF
      exact jx_iret E dX2_takeLot_41 rfl
    · rw [if_pos hc3] at hF
      refine jx_aload_n E dX2_takeLot_15 0 rfl ?_
      refine jx_geti (C := RX2) (T := TX2) (M := 7) (k := 5) E dX2_takeLot_16 (Nat.le_of_ble_eq_true rfl) s_X53 rfl iX2 (by decide) rfl (List.mem_cons_of_mem _ tw_102) rfl ?_
      refine jx_bipush (x := 25) E dX2_takeLot_19 (by decide) ?_
      refine jx_icmp_ge (tgt := 36) E dX2_takeLot_21 (by decide) (fun hc5 => ?_) (fun hc5 => ?_)
      · rw [if_pos hc5] at hF
        refine jx_aload_n E dX2_takeLot_36 0 rfl ?_
        obtain ⟨v6, hc6, hF⟩ := jx_bind hF
        try dsimp only at hF
        refine jx_callVv (As := []) (st := []) (h := 53) E dX2_takeLot_37 0 rfl (k_X2_failHere hI  v v6 hc6) (gb_V (List.mem_cons_of_mem _ tw_118) (List.mem_cons_of_mem _ tw_119) (List.mem_cons_of_mem _ tw_120) (List.mem_cons_of_mem _ tw_100) tw_117) rfl rfl rfl dd_X2_failHere rfl (Nat.le_of_ble_eq_true rfl) s_X53 rfl ⟨by decide, by decide⟩ ⟨Nat.le_refl 0, Nat.le_refl 0⟩ (Nat.le_of_ble_eq_true rfl) ?_
        refine jx_iconst (x := 0) E dX2_takeLot_40 (by decide) ?_
        obtain ⟨rfl, rfl⟩ := jx_out hF
        exact jx_iret E dX2_takeLot_41 rfl
      · rw [if_neg hc5] at hF
        refine jx_aload_n E dX2_takeLot_24 1 rfl ?_
        refine jx_aload_n E dX2_takeLot_25 0 rfl ?_
        refine jx_geti (C := RX2) (T := TX2) (M := 7) (k := 5) E dX2_takeLot_26 (Nat.le_of_ble_eq_true rfl) s_X53 rfl iX2 (by decide) rfl (List.mem_cons_of_mem _ tw_102) rfl ?_
        obtain ⟨⟨r7, v7⟩, hc7, hF⟩ := jx_bind hF
        try dsimp only at hF
        refine jx_callNi (As := [.int (v 53 5)]) (st := []) (h := h1) E dX2_takeLot_29 1 rfl (k_X3_isTaken hI h1 hT1 (v 53 5) v r7 v7 hc7) (gb_N tw_51) rfl rfl rfl (ex_m35 (jx_ex E)) (List.mem_cons_of_mem _ tw_33) (List.mem_cons_of_mem _ tw_52) (List.mem_cons_of_mem _ tw_53) dd_X3_isTaken.2 rfl (n_T0 hT1) (s_T0 hT1) rfl ⟨by decide, by decide⟩ ⟨Nat.le_refl 0, Nat.le_refl 0⟩ (Nat.le_of_ble_eq_true rfl) ?_
        refine jx_iload_n E dX2_takeLot_32 2 rfl ?_
        refine jx_icmp_eq (tgt := 42) E dX2_takeLot_33 (by decide) (fun hc8 => ?_) (fun hc8 => ?_)
        · rw [if_pos hc8] at hF
          refine jx_aload_n E dX2_takeLot_42 0 rfl ?_
          refine jx_geti (C := RX2) (T := TX2) (M := 7) (k := 5) E dX2_takeLot_43 (Nat.le_of_ble_eq_true rfl) s_X53 rfl iX2 (by decide) rfl (List.mem_cons_of_mem _ tw_102) rfl ?_
          refine jx_istore_n (lv' := [(3, .int (v7 53 5)), (0, .ref (ad 53)), (1, .ref (ad h1)), (2, .int x2)]) E dX2_takeLot_46 (by decide) rfl ?_
          refine jx_aload_n E dX2_takeLot_47 1 rfl ?_
          obtain ⟨v9, hc9, hF⟩ := jx_bind hF
          try dsimp only at hF
          refine jx_callVv (As := []) (st := []) (h := 53) E dX2_takeLot_48 0 rfl (k_X2_nextToken hI  v7 v9 hc9) (gb_V (List.mem_cons_of_mem _ tw_122) (List.mem_cons_of_mem _ tw_123) (List.mem_cons_of_mem _ tw_124) (List.mem_cons_of_mem _ tw_100) tw_121) rfl rfl rfl dd_X2_nextToken rfl (Nat.le_of_ble_eq_true rfl) s_X53 rfl ⟨by decide, by decide⟩ ⟨Nat.le_refl 0, Nat.le_refl 0⟩ (Nat.le_of_ble_eq_true rfl) ?_
          refine jx_iload_n E dX2_takeLot_51 0 rfl ?_
          obtain ⟨rfl, rfl⟩ := jx_out hF
          exact jx_iret E dX2_takeLot_52 rfl
        · rw [if_neg hc8] at hF
          refine jx_aload_n E dX2_takeLot_36 0 rfl ?_
          obtain ⟨v10, hc10, hF⟩ := jx_bind hF
          try dsimp only at hF
          refine jx_callVv (As := []) (st := []) (h := 53) E dX2_takeLot_37 0 rfl (k_X2_failHere hI  v7 v10 hc10) (gb_V (List.mem_cons_of_mem _ tw_118) (List.mem_cons_of_mem _ tw_119) (List.mem_cons_of_mem _ tw_120) (List.mem_cons_of_mem _ tw_100) tw_117) rfl rfl rfl dd_X2_failHere rfl (Nat.le_of_ble_eq_true rfl) s_X53 rfl ⟨by decide, by decide⟩ ⟨Nat.le_refl 0, Nat.le_refl 0⟩ (Nat.le_of_ble_eq_true rfl) ?_
          refine jx_iconst (x := 0) E dX2_takeLot_40 (by decide) ?_
          obtain ⟨rfl, rfl⟩ := jx_out hF
          exact jx_iret E dX2_takeLot_41 rfl
def f_X2_takeNumber (x1 : Int32) (v : jx_V) : Option (Int32 × jx_V) := (if 0 ≤ (v 53 6) then ((f_X2_failHere v).bind (fun v2 => (some (0, v2)))) else (if (v 53 2) = 2 then (if (v 53 5) < x1 then ((f_X2_nextToken v).bind (fun v6 => (some ((v 53 5), v6)))) else ((f_X2_failHere v).bind (fun v7 => (some (0, v7))))) else ((f_X2_failHere v).bind (fun v4 => (some (0, v4))))))
def rm_X2_takeNumber : Room := { frames := 2, cells := 0, slots := 0, locals := 42 }
set_option maxHeartbeats 4000000 in
set_option maxRecDepth 100000 in
theorem k_X2_takeNumber {l : Launch} {D : va_G} {cI cJ : ClassId} {ad : Nat → Nat} {A : Nat → Prop} {adK adV : Nat → Nat} (hI : jx_inj 67 ad A) (x1 : Int32) (v : jx_V) (r : Int32) (v' : jx_V) (hF : f_X2_takeNumber x1 v = some (r, v')) : jx_Ci l D vwCl 67 cI cJ ad shX A (ex_X adK adV A) yX2_takeNumber (Cond.code yX2_takeNumber cX2_takeNumber 3 (some .int) :: bigT) rm_X2_takeNumber [.ref (ad 53), .int x1] v r v' := by
  unfold f_X2_takeNumber at hF
  refine jx_enteri bigT RX2 cX2_takeNumber 3 (some .int) [(0, .ref (ad 53)), (1, .int x1)] hI (ex_X_ok adK adV A) (by decide +kernel) rfl (Nat.le_of_ble_eq_true rfl) rfl rfl ?_
  intro p e s m args below meth c E
  have iX2 : ∀ w ∈ u_ws RX2 TX2 7, w ∈ (Cond.code yX2_takeNumber cX2_takeNumber 3 (some .int) :: bigT) := fun w h => List.mem_cons_of_mem _ (uw_X2 w h)
  refine jx_aload_n E dX2_takeNumber_0 0 rfl ?_
  refine jx_geti (C := RX2) (T := TX2) (M := 7) (k := 6) E dX2_takeNumber_1 (Nat.le_of_ble_eq_true rfl) s_X53 rfl iX2 (by decide) rfl (List.mem_cons_of_mem _ tw_116) rfl ?_
  refine jx_if_ge (tgt := 23) E dX2_takeNumber_4 (by decide) (fun hc1 => ?_) (fun hc1 => ?_)
  · rw [if_pos hc1] at hF
    refine jx_aload_n E dX2_takeNumber_23 0 rfl ?_
    obtain ⟨v2, hc2, hF⟩ := jx_bind hF
    try dsimp only at hF
    refine jx_callVv (As := []) (st := []) (h := 53) E dX2_takeNumber_24 0 rfl (k_X2_failHere hI  v v2 hc2) (gb_V (List.mem_cons_of_mem _ tw_118) (List.mem_cons_of_mem _ tw_119) (List.mem_cons_of_mem _ tw_120) (List.mem_cons_of_mem _ tw_100) tw_117) rfl rfl rfl dd_X2_failHere rfl (Nat.le_of_ble_eq_true rfl) s_X53 rfl ⟨by decide, by decide⟩ ⟨Nat.le_refl 0, Nat.le_refl 0⟩ (Nat.le_of_ble_eq_true rfl) ?_
    refine jx_iconst (x := 0) E dX2_takeNumber_27 (by decide) ?_
    obtain ⟨rfl, rfl⟩ := jx_out hF
    exact jx_iret E dX2_takeNumber_28 rfl
  · rw [if_neg hc1] at hF
    refine jx_aload_n E dX2_takeNumber_7 0 rfl ?_
    refine jx_geti (C := RX2) (T := TX2) (M := 7) (k := 2) E dX2_takeNumber_8 (Nat.le_of_ble_eq_true rfl) s_X53 rfl iX2 (by decide) rfl (List.mem_cons_of_mem _ tw_101) rfl ?_
    refine jx_iconst (x := 2) E dX2_takeNumber_11 (by decide) ?_
    refine jx_icmp_ne (tgt := 23) E dX2_takeNumber_12 (by decide) (fun hc3 => ?_) (fun hc3 => ?_)
    · rw [if_neg hc3] at hF
      refine jx_aload_n E dX2_takeNumber_23 0 rfl ?_
      obtain ⟨v4, hc4, hF⟩ := jx_bind hF
      try dsimp only at hF
      refine jx_callVv (As := []) (st := []) (h := 53) E dX2_takeNumber_24 0 rfl (k_X2_failHere hI  v v4 hc4) (gb_V (List.mem_cons_of_mem _ tw_118) (List.mem_cons_of_mem _ tw_119) (List.mem_cons_of_mem _ tw_120) (List.mem_cons_of_mem _ tw_100) tw_117) rfl rfl rfl dd_X2_failHere rfl (Nat.le_of_ble_eq_true rfl) s_X53 rfl ⟨by decide, by decide⟩ ⟨Nat.le_refl 0, Nat.le_refl 0⟩ (Nat.le_of_ble_eq_true rfl) ?_
      refine jx_iconst (x := 0) E dX2_takeNumber_27 (by decide) ?_
      obtain ⟨rfl, rfl⟩ := jx_out hF
      exact jx_iret E dX2_takeNumber_28 rfl
    · rw [if_pos hc3] at hF
      refine jx_aload_n E dX2_takeNumber_15 0 rfl ?_
      refine jx_geti (C := RX2) (T := TX2) (M := 7) (k := 5) E dX2_takeNumber_16 (Nat.le_of_ble_eq_true rfl) s_X53 rfl iX2 (by decide) rfl (List.mem_cons_of_mem _ tw_102) rfl ?_
      refine jx_iload_n E dX2_takeNumber_19 1 rfl ?_
      refine jx_icmp_lt (tgt := 29) E dX2_takeNumber_20 (by decide) (fun hc5 => ?_) (fun hc5 => ?_)
      · rw [if_pos hc5] at hF
        refine jx_aload_n E dX2_takeNumber_29 0 rfl ?_
        refine jx_geti (C := RX2) (T := TX2) (M := 7) (k := 5) E dX2_takeNumber_30 (Nat.le_of_ble_eq_true rfl) s_X53 rfl iX2 (by decide) rfl (List.mem_cons_of_mem _ tw_102) rfl ?_
        refine jx_istore_n (lv' := [(2, .int (v 53 5)), (0, .ref (ad 53)), (1, .int x1)]) E dX2_takeNumber_33 (by decide) rfl ?_
        refine jx_aload_n E dX2_takeNumber_34 1 rfl ?_
        obtain ⟨v6, hc6, hF⟩ := jx_bind hF
        try dsimp only at hF
        refine jx_callVv (As := []) (st := []) (h := 53) E dX2_takeNumber_35 0 rfl (k_X2_nextToken hI  v v6 hc6) (gb_V (List.mem_cons_of_mem _ tw_122) (List.mem_cons_of_mem _ tw_123) (List.mem_cons_of_mem _ tw_124) (List.mem_cons_of_mem _ tw_100) tw_121) rfl rfl rfl dd_X2_nextToken rfl (Nat.le_of_ble_eq_true rfl) s_X53 rfl ⟨by decide, by decide⟩ ⟨Nat.le_refl 0, Nat.le_refl 0⟩ (Nat.le_of_ble_eq_true rfl) ?_
        refine jx_iload_n E dX2_takeNumber_38 0 rfl ?_
        obtain ⟨rfl, rfl⟩ := jx_out hF
        exact jx_iret E dX2_takeNumber_39 rfl
      · rw [if_neg hc5] at hF
        refine jx_aload_n E dX2_takeNumber_23 0 rfl ?_
        obtain ⟨v7, hc7, hF⟩ := jx_bind hF
        try dsimp only at hF
        refine jx_callVv (As := []) (st := []) (h := 53) E dX2_takeNumber_24 0 rfl (k_X2_failHere hI  v v7 hc7) (gb_V (List.mem_cons_of_mem _ tw_118) (List.mem_cons_of_mem _ tw_119) (List.mem_cons_of_mem _ tw_120) (List.mem_cons_of_mem _ tw_100) tw_117) rfl rfl rfl dd_X2_failHere rfl (Nat.le_of_ble_eq_true rfl) s_X53 rfl ⟨by decide, by decide⟩ ⟨Nat.le_refl 0, Nat.le_refl 0⟩ (Nat.le_of_ble_eq_true rfl) ?_
        refine jx_iconst (x := 0) E dX2_takeNumber_27 (by decide) ?_
        obtain ⟨rfl, rfl⟩ := jx_out hF
        exact jx_iret E dX2_takeNumber_28 rfl
def f_X3_put (h0 : Nat) (x1 : Int32) (x2 : Int32) (x3 : Int32) (x4 : Int32) (x5 : Int32) (v : jx_V) : Option (jx_V) := (if (x1 < 0 ∨ 25 ≤ Int32.toNatClampNeg x1) then none else (if (x1 < 0 ∨ 25 ≤ Int32.toNatClampNeg x1) then none else (if (x1 < 0 ∨ 25 ≤ Int32.toNatClampNeg x1) then none else (if (x1 < 0 ∨ 25 ≤ Int32.toNatClampNeg x1) then none else (some (jx_up (jx_up (jx_up (jx_up v (h0 + 3) (Int32.toNatClampNeg x1) x2) (h0 + 4) (Int32.toNatClampNeg x1) x3) (h0 + 5) (Int32.toNatClampNeg x1) x4) (h0 + 6) (Int32.toNatClampNeg x1) x5))))))
def rm_X3_put : Room := { frames := 0, cells := 0, slots := 0, locals := 0 }
set_option maxHeartbeats 4000000 in
set_option maxRecDepth 100000 in
theorem k_X3_put {l : Launch} {D : va_G} {cI cJ : ClassId} {ad : Nat → Nat} {A : Nat → Prop} {adK adV : Nat → Nat} (hI : jx_inj 67 ad A) (h0 : Nat) (hT0 : jx_T h0) (x1 : Int32) (x2 : Int32) (x3 : Int32) (x4 : Int32) (x5 : Int32) (v : jx_V) (v' : jx_V) (hF : f_X3_put h0 x1 x2 x3 x4 x5 v = some v') : jx_Cv l D vwCl 67 cI cJ ad shX A (ex_X adK adV A) yX3_put (Cond.code yX3_put cX3_put 6 (none) :: bigT) rm_X3_put [.ref (ad h0), .int x1, .int x2, .int x3, .int x4, .int x5] v v' := by
  unfold f_X3_put at hF
  refine jx_enterv bigT RX3 cX3_put 6 (none) [(0, .ref (ad h0)), (1, .int x1), (2, .int x2), (3, .int x3), (4, .int x4), (5, .int x5)] hI (ex_X_ok adK adV A) (by decide +kernel) rfl (Nat.le_of_ble_eq_true rfl) rfl rfl ?_
  intro p e s m args below meth c E
  have iX3 : ∀ w ∈ u_ws RX3 TX3 8, w ∈ (Cond.code yX3_put cX3_put 6 (none) :: bigT) := fun w h => List.mem_cons_of_mem _ (uw_X3 w h)
  refine jx_aload_n E dX3_put_0 0 rfl ?_
  refine jx_getr (C := RX3) (T := TX3) (M := 8) (k := 0) E dX3_put_1 (n_T0 hT0) (s_T0 hT0) rfl iX3 (by decide) rfl (List.mem_cons_of_mem _ tw_27) rfl ?_
  refine jx_iconst (x := 0) E dX3_put_4 (by decide) ?_
  refine jx_aald (h' := (h0 + 3)) E dX3_put_5 (n_T1 hT0) (s_T1 hT0) (show ¬ ((0 : Int32) < 0 ∨ 4 ≤ Int32.toNatClampNeg 0) by decide) rfl ?_
  refine jx_iload_n E dX3_put_6 1 rfl ?_
  refine jx_iload_n E dX3_put_7 2 rfl ?_
  obtain ⟨hg1, hF⟩ := jx_guard hF
  refine jx_iast (h := (h0 + 3)) (j := (Int32.toNatClampNeg x1)) E dX3_put_8 (n_T3 hT0) (s_T3 hT0) hg1 rfl ?_
  refine jx_aload_n E dX3_put_9 0 rfl ?_
  refine jx_getr (C := RX3) (T := TX3) (M := 8) (k := 0) E dX3_put_10 (n_T0 hT0) (s_T0 hT0) rfl iX3 (by decide) rfl (List.mem_cons_of_mem _ tw_27) rfl ?_
  refine jx_iconst (x := 1) E dX3_put_13 (by decide) ?_
  refine jx_aald (h' := (h0 + 4)) E dX3_put_14 (n_T1 hT0) (s_T1 hT0) (show ¬ ((1 : Int32) < 0 ∨ 4 ≤ Int32.toNatClampNeg 1) by decide) rfl ?_
  refine jx_iload_n E dX3_put_15 1 rfl ?_
  refine jx_iload_n E dX3_put_16 3 rfl ?_
  obtain ⟨hg2, hF⟩ := jx_guard hF
  refine jx_iast (h := (h0 + 4)) (j := (Int32.toNatClampNeg x1)) E dX3_put_17 (n_T4 hT0) (s_T4 hT0) hg2 rfl ?_
  refine jx_aload_n E dX3_put_18 0 rfl ?_
  refine jx_getr (C := RX3) (T := TX3) (M := 8) (k := 0) E dX3_put_19 (n_T0 hT0) (s_T0 hT0) rfl iX3 (by decide) rfl (List.mem_cons_of_mem _ tw_27) rfl ?_
  refine jx_iconst (x := 2) E dX3_put_22 (by decide) ?_
  refine jx_aald (h' := (h0 + 5)) E dX3_put_23 (n_T1 hT0) (s_T1 hT0) (show ¬ ((2 : Int32) < 0 ∨ 4 ≤ Int32.toNatClampNeg 2) by decide) rfl ?_
  refine jx_iload_n E dX3_put_24 1 rfl ?_
  refine jx_iload E dX3_put_25 4 rfl ?_
  obtain ⟨hg3, hF⟩ := jx_guard hF
  refine jx_iast (h := (h0 + 5)) (j := (Int32.toNatClampNeg x1)) E dX3_put_27 (n_T5 hT0) (s_T5 hT0) hg3 rfl ?_
  refine jx_aload_n E dX3_put_28 0 rfl ?_
  refine jx_getr (C := RX3) (T := TX3) (M := 8) (k := 0) E dX3_put_29 (n_T0 hT0) (s_T0 hT0) rfl iX3 (by decide) rfl (List.mem_cons_of_mem _ tw_27) rfl ?_
  refine jx_iconst (x := 3) E dX3_put_32 (by decide) ?_
  refine jx_aald (h' := (h0 + 6)) E dX3_put_33 (n_T1 hT0) (s_T1 hT0) (show ¬ ((3 : Int32) < 0 ∨ 4 ≤ Int32.toNatClampNeg 3) by decide) rfl ?_
  refine jx_iload_n E dX3_put_34 1 rfl ?_
  refine jx_iload E dX3_put_35 5 rfl ?_
  obtain ⟨hg4, hF⟩ := jx_guard hF
  refine jx_iast (h := (h0 + 6)) (j := (Int32.toNatClampNeg x1)) E dX3_put_37 (n_T6 hT0) (s_T6 hT0) hg4 rfl ?_
  obtain rfl := Option.some.inj hF
  exact jx_vret E dX3_put_38 rfl
def f_X2_readThing (h1 : Nat) (x2 : Int32) (v : jx_V) : Option (jx_V) := ((f_X2_nextToken v).bind (fun v1 => ((f_X2_takeWord 7 v1).bind (fun v2 => ((f_X2_takeLot h1 0 v2).bind (fun (r3, v3) => ((f_X2_takeWord 8 v3).bind (fun v4 => ((f_X2_takeNumber 4 v4).bind (fun (r5, v5) => ((f_X2_takeWord 9 v5).bind (fun v6 => ((f_X2_takeNumber 10 v6).bind (fun (r7, v7) => ((f_X2_isWord 10 v7).bind (fun (r8, v8) => (if r8 = 0 then (if 0 ≤ (v8 53 6) then (some v8) else ((f_X3_put h1 r3 x2 r5 r7 0 v8).bind (fun v11 => (some v11)))) else ((f_X2_takeWord 10 v8).bind (fun v12 => ((f_X2_takeNumber 4 v12).bind (fun (r13, v13) => (if 0 ≤ (v13 53 6) then (some v13) else ((f_X3_put h1 r3 x2 r5 r7 r13 v13).bind (fun v15 => (some v15)))))))))))))))))))))))))
def rm_X2_readThing : Room := { frames := 6, cells := 0, slots := 0, locals := 128 }
set_option maxHeartbeats 4000000 in
set_option maxRecDepth 100000 in
theorem k_X2_readThing {l : Launch} {D : va_G} {cI cJ : ClassId} {ad : Nat → Nat} {A : Nat → Prop} {adK adV : Nat → Nat} (hI : jx_inj 67 ad A) (h1 : Nat) (hT1 : jx_T h1) (x2 : Int32) (v : jx_V) (v' : jx_V) (hF : f_X2_readThing h1 x2 v = some v') : jx_Cv l D vwCl 67 cI cJ ad shX A (ex_X adK adV A) yX2_readThing (Cond.code yX2_readThing cX2_readThing 7 (none) :: bigT) rm_X2_readThing [.ref (ad 53), .ref (ad h1), .int x2] v v' := by
  unfold f_X2_readThing at hF
  refine jx_enterv bigT RX2 cX2_readThing 7 (none) [(0, .ref (ad 53)), (1, .ref (ad h1)), (2, .int x2)] hI (ex_X_ok adK adV A) (by decide +kernel) rfl (Nat.le_of_ble_eq_true rfl) rfl rfl ?_
  intro p e s m args below meth c E
  have iX2 : ∀ w ∈ u_ws RX2 TX2 7, w ∈ (Cond.code yX2_readThing cX2_readThing 7 (none) :: bigT) := fun w h => List.mem_cons_of_mem _ (uw_X2 w h)
  refine jx_aload_n E dX2_readThing_0 0 rfl ?_
  obtain ⟨v1, hc1, hF⟩ := jx_bind hF
  try dsimp only at hF
  refine jx_callVv (As := []) (st := []) (h := 53) E dX2_readThing_1 0 rfl (k_X2_nextToken hI  v v1 hc1) (gb_V (List.mem_cons_of_mem _ tw_122) (List.mem_cons_of_mem _ tw_123) (List.mem_cons_of_mem _ tw_124) (List.mem_cons_of_mem _ tw_100) tw_121) rfl rfl rfl dd_X2_nextToken rfl (Nat.le_of_ble_eq_true rfl) s_X53 rfl ⟨by decide, by decide⟩ ⟨Nat.le_refl 0, Nat.le_refl 0⟩ (Nat.le_of_ble_eq_true rfl) ?_
  refine jx_aload_n E dX2_readThing_4 0 rfl ?_
  refine jx_ldcS (q := adK 7) E dX2_readThing_5 ((jx_ex E).2.2.1 7 (by decide)) ?_
  obtain ⟨v2, hc2, hF⟩ := jx_bind hF
  try dsimp only at hF
  refine jx_callVv (As := [.ref (adK 7)]) (st := []) (h := 53) E dX2_readThing_7 1 rfl (k_X2_takeWord hI 7 (by decide) v1 v2 hc2) (gb_V (List.mem_cons_of_mem _ tw_126) (List.mem_cons_of_mem _ tw_127) (List.mem_cons_of_mem _ tw_128) (List.mem_cons_of_mem _ tw_100) tw_125) rfl rfl rfl dd_X2_takeWord rfl (Nat.le_of_ble_eq_true rfl) s_X53 rfl ⟨by decide, by decide⟩ ⟨Nat.le_refl 0, Nat.le_refl 0⟩ (Nat.le_of_ble_eq_true rfl) ?_
  refine jx_aload_n E dX2_readThing_10 0 rfl ?_
  refine jx_aload_n E dX2_readThing_11 1 rfl ?_
  refine jx_iconst (x := 0) E dX2_readThing_12 (by decide) ?_
  obtain ⟨⟨r3, v3⟩, hc3, hF⟩ := jx_bind hF
  try dsimp only at hF
  refine jx_callVi (As := [.ref (ad h1), .int 0]) (st := []) (h := 53) E dX2_readThing_13 2 rfl (k_X2_takeLot hI h1 hT1 0 v2 r3 v3 hc3) (gb_V (List.mem_cons_of_mem _ tw_130) (List.mem_cons_of_mem _ tw_131) (List.mem_cons_of_mem _ tw_132) (List.mem_cons_of_mem _ tw_100) tw_129) rfl rfl rfl dd_X2_takeLot rfl (Nat.le_of_ble_eq_true rfl) s_X53 rfl ⟨by decide, by decide⟩ ⟨Nat.le_refl 0, Nat.le_refl 0⟩ (Nat.le_of_ble_eq_true rfl) ?_
  refine jx_istore_n (lv' := [(3, .int r3), (0, .ref (ad 53)), (1, .ref (ad h1)), (2, .int x2)]) E dX2_readThing_16 (by decide) rfl ?_
  refine jx_aload_n E dX2_readThing_17 1 rfl ?_
  refine jx_ldcS (q := adK 8) E dX2_readThing_18 ((jx_ex E).2.2.1 8 (by decide)) ?_
  obtain ⟨v4, hc4, hF⟩ := jx_bind hF
  try dsimp only at hF
  refine jx_callVv (As := [.ref (adK 8)]) (st := []) (h := 53) E dX2_readThing_20 1 rfl (k_X2_takeWord hI 8 (by decide) v3 v4 hc4) (gb_V (List.mem_cons_of_mem _ tw_126) (List.mem_cons_of_mem _ tw_127) (List.mem_cons_of_mem _ tw_128) (List.mem_cons_of_mem _ tw_100) tw_125) rfl rfl rfl dd_X2_takeWord rfl (Nat.le_of_ble_eq_true rfl) s_X53 rfl ⟨by decide, by decide⟩ ⟨Nat.le_refl 0, Nat.le_refl 0⟩ (Nat.le_of_ble_eq_true rfl) ?_
  refine jx_aload_n E dX2_readThing_23 1 rfl ?_
  refine jx_iconst (x := 4) E dX2_readThing_24 (by decide) ?_
  obtain ⟨⟨r5, v5⟩, hc5, hF⟩ := jx_bind hF
  try dsimp only at hF
  refine jx_callVi (As := [.int 4]) (st := []) (h := 53) E dX2_readThing_25 1 rfl (k_X2_takeNumber hI 4 v4 r5 v5 hc5) (gb_V (List.mem_cons_of_mem _ tw_134) (List.mem_cons_of_mem _ tw_135) (List.mem_cons_of_mem _ tw_136) (List.mem_cons_of_mem _ tw_100) tw_133) rfl rfl rfl dd_X2_takeNumber rfl (Nat.le_of_ble_eq_true rfl) s_X53 rfl ⟨by decide, by decide⟩ ⟨Nat.le_refl 0, Nat.le_refl 0⟩ (Nat.le_of_ble_eq_true rfl) ?_
  refine jx_istore (lv' := [(4, .int r5), (3, .int r3), (0, .ref (ad 53)), (1, .ref (ad h1)), (2, .int x2)]) E dX2_readThing_28 (by decide) rfl ?_
  refine jx_aload_n E dX2_readThing_30 2 rfl ?_
  refine jx_ldcS (q := adK 9) E dX2_readThing_31 ((jx_ex E).2.2.1 9 (by decide)) ?_
  obtain ⟨v6, hc6, hF⟩ := jx_bind hF
  try dsimp only at hF
  refine jx_callVv (As := [.ref (adK 9)]) (st := []) (h := 53) E dX2_readThing_33 1 rfl (k_X2_takeWord hI 9 (by decide) v5 v6 hc6) (gb_V (List.mem_cons_of_mem _ tw_126) (List.mem_cons_of_mem _ tw_127) (List.mem_cons_of_mem _ tw_128) (List.mem_cons_of_mem _ tw_100) tw_125) rfl rfl rfl dd_X2_takeWord rfl (Nat.le_of_ble_eq_true rfl) s_X53 rfl ⟨by decide, by decide⟩ ⟨Nat.le_refl 0, Nat.le_refl 0⟩ (Nat.le_of_ble_eq_true rfl) ?_
  refine jx_aload_n E dX2_readThing_36 2 rfl ?_
  refine jx_bipush (x := 10) E dX2_readThing_37 (by decide) ?_
  obtain ⟨⟨r7, v7⟩, hc7, hF⟩ := jx_bind hF
  try dsimp only at hF
  refine jx_callVi (As := [.int 10]) (st := []) (h := 53) E dX2_readThing_39 1 rfl (k_X2_takeNumber hI 10 v6 r7 v7 hc7) (gb_V (List.mem_cons_of_mem _ tw_134) (List.mem_cons_of_mem _ tw_135) (List.mem_cons_of_mem _ tw_136) (List.mem_cons_of_mem _ tw_100) tw_133) rfl rfl rfl dd_X2_takeNumber rfl (Nat.le_of_ble_eq_true rfl) s_X53 rfl ⟨by decide, by decide⟩ ⟨Nat.le_refl 0, Nat.le_refl 0⟩ (Nat.le_of_ble_eq_true rfl) ?_
  refine jx_istore (lv' := [(5, .int r7), (4, .int r5), (3, .int r3), (0, .ref (ad 53)), (1, .ref (ad h1)), (2, .int x2)]) E dX2_readThing_42 (by decide) rfl ?_
  refine jx_iconst (x := 0) E dX2_readThing_44 (by decide) ?_
  refine jx_istore (lv' := [(6, .int 0), (5, .int r7), (4, .int r5), (3, .int r3), (0, .ref (ad 53)), (1, .ref (ad h1)), (2, .int x2)]) E dX2_readThing_45 (by decide) rfl ?_
  refine jx_aload_n E dX2_readThing_47 4 rfl ?_
  refine jx_ldcS (q := adK 10) E dX2_readThing_48 ((jx_ex E).2.2.1 10 (by decide)) ?_
  obtain ⟨⟨r8, v8⟩, hc8, hF⟩ := jx_bind hF
  try dsimp only at hF
  refine jx_callVi (As := [.ref (adK 10)]) (st := []) (h := 53) E dX2_readThing_50 1 rfl (k_X2_isWord hI 10 (by decide) v7 r8 v8 hc8) (gb_V (List.mem_cons_of_mem _ tw_113) (List.mem_cons_of_mem _ tw_114) (List.mem_cons_of_mem _ tw_115) (List.mem_cons_of_mem _ tw_100) tw_112) rfl rfl rfl dd_X2_isWord rfl (Nat.le_of_ble_eq_true rfl) s_X53 rfl ⟨by decide, by decide⟩ ⟨Nat.le_refl 0, Nat.le_refl 0⟩ (Nat.le_of_ble_eq_true rfl) ?_
  refine jx_if_eq (tgt := 69) E dX2_readThing_53 (by decide) (fun hc9 => ?_) (fun hc9 => ?_)
  · rw [if_pos hc9] at hF
    refine jx_aload_n E dX2_readThing_69 4 rfl ?_
    refine jx_geti (C := RX2) (T := TX2) (M := 7) (k := 6) E dX2_readThing_70 (Nat.le_of_ble_eq_true rfl) s_X53 rfl iX2 (by decide) rfl (List.mem_cons_of_mem _ tw_116) rfl ?_
    refine jx_if_ge (tgt := 88) E dX2_readThing_73 (by decide) (fun hc10 => ?_) (fun hc10 => ?_)
    · rw [if_pos hc10] at hF
      obtain rfl := Option.some.inj hF
      exact jx_vret E dX2_readThing_88 rfl
    · rw [if_neg hc10] at hF
      refine jx_aload_n E dX2_readThing_76 5 rfl ?_
      refine jx_iload_n E dX2_readThing_77 3 rfl ?_
      refine jx_iload_n E dX2_readThing_78 6 rfl ?_
      refine jx_iload E dX2_readThing_79 2 rfl ?_
      refine jx_iload E dX2_readThing_81 1 rfl ?_
      refine jx_iload E dX2_readThing_83 0 rfl ?_
      obtain ⟨v11, hc11, hF⟩ := jx_bind hF
      try dsimp only at hF
      refine jx_callNv (As := [.int r3, .int x2, .int r5, .int r7, .int 0]) (st := []) (h := h1) E dX2_readThing_85 5 rfl (k_X3_put hI h1 hT1 r3 x2 r5 r7 0 v8 v11 hc11) (gb_N tw_137) rfl rfl rfl (ex_m36 (jx_ex E)) (List.mem_cons_of_mem _ tw_33) (List.mem_cons_of_mem _ tw_138) (List.mem_cons_of_mem _ tw_139) dd_X3_put.2 rfl (n_T0 hT1) (s_T0 hT1) rfl ⟨by decide, by decide⟩ ⟨Nat.le_refl 0, Nat.le_refl 0⟩ (Nat.le_of_ble_eq_true rfl) ?_
      obtain rfl := Option.some.inj hF
      exact jx_vret E dX2_readThing_88 rfl
  · rw [if_neg hc9] at hF
    refine jx_aload_n E dX2_readThing_56 4 rfl ?_
    refine jx_ldcS (q := adK 10) E dX2_readThing_57 ((jx_ex E).2.2.1 10 (by decide)) ?_
    obtain ⟨v12, hc12, hF⟩ := jx_bind hF
    try dsimp only at hF
    refine jx_callVv (As := [.ref (adK 10)]) (st := []) (h := 53) E dX2_readThing_59 1 rfl (k_X2_takeWord hI 10 (by decide) v8 v12 hc12) (gb_V (List.mem_cons_of_mem _ tw_126) (List.mem_cons_of_mem _ tw_127) (List.mem_cons_of_mem _ tw_128) (List.mem_cons_of_mem _ tw_100) tw_125) rfl rfl rfl dd_X2_takeWord rfl (Nat.le_of_ble_eq_true rfl) s_X53 rfl ⟨by decide, by decide⟩ ⟨Nat.le_refl 0, Nat.le_refl 0⟩ (Nat.le_of_ble_eq_true rfl) ?_
    refine jx_aload_n E dX2_readThing_62 4 rfl ?_
    refine jx_iconst (x := 4) E dX2_readThing_63 (by decide) ?_
    obtain ⟨⟨r13, v13⟩, hc13, hF⟩ := jx_bind hF
    try dsimp only at hF
    refine jx_callVi (As := [.int 4]) (st := []) (h := 53) E dX2_readThing_64 1 rfl (k_X2_takeNumber hI 4 v12 r13 v13 hc13) (gb_V (List.mem_cons_of_mem _ tw_134) (List.mem_cons_of_mem _ tw_135) (List.mem_cons_of_mem _ tw_136) (List.mem_cons_of_mem _ tw_100) tw_133) rfl rfl rfl dd_X2_takeNumber rfl (Nat.le_of_ble_eq_true rfl) s_X53 rfl ⟨by decide, by decide⟩ ⟨Nat.le_refl 0, Nat.le_refl 0⟩ (Nat.le_of_ble_eq_true rfl) ?_
    refine jx_istore (lv' := [(6, .int r13), (5, .int r7), (4, .int r5), (3, .int r3), (0, .ref (ad 53)), (1, .ref (ad h1)), (2, .int x2)]) E dX2_readThing_67 (by decide) rfl ?_
    refine jx_aload_n E dX2_readThing_69 4 rfl ?_
    refine jx_geti (C := RX2) (T := TX2) (M := 7) (k := 6) E dX2_readThing_70 (Nat.le_of_ble_eq_true rfl) s_X53 rfl iX2 (by decide) rfl (List.mem_cons_of_mem _ tw_116) rfl ?_
    refine jx_if_ge (tgt := 88) E dX2_readThing_73 (by decide) (fun hc14 => ?_) (fun hc14 => ?_)
    · rw [if_pos hc14] at hF
      obtain rfl := Option.some.inj hF
      exact jx_vret E dX2_readThing_88 rfl
    · rw [if_neg hc14] at hF
      refine jx_aload_n E dX2_readThing_76 5 rfl ?_
      refine jx_iload_n E dX2_readThing_77 3 rfl ?_
      refine jx_iload_n E dX2_readThing_78 6 rfl ?_
      refine jx_iload E dX2_readThing_79 2 rfl ?_
      refine jx_iload E dX2_readThing_81 1 rfl ?_
      refine jx_iload E dX2_readThing_83 0 rfl ?_
      obtain ⟨v15, hc15, hF⟩ := jx_bind hF
      try dsimp only at hF
      refine jx_callNv (As := [.int r3, .int x2, .int r5, .int r7, .int r13]) (st := []) (h := h1) E dX2_readThing_85 5 rfl (k_X3_put hI h1 hT1 r3 x2 r5 r7 r13 v13 v15 hc15) (gb_N tw_137) rfl rfl rfl (ex_m36 (jx_ex E)) (List.mem_cons_of_mem _ tw_33) (List.mem_cons_of_mem _ tw_138) (List.mem_cons_of_mem _ tw_139) dd_X3_put.2 rfl (n_T0 hT1) (s_T0 hT1) rfl ⟨by decide, by decide⟩ ⟨Nat.le_refl 0, Nat.le_refl 0⟩ (Nat.le_of_ble_eq_true rfl) ?_
      obtain rfl := Option.some.inj hF
      exact jx_vret E dX2_readThing_88 rfl
def f_X3_addWindow (h0 : Nat) (x1 : Int32) (x2 : Int32) (x3 : Int32) (x4 : Int32) (v : jx_V) : Option (jx_V) := (if 10 ≤ (v h0 5) then (some v) else (if ((v h0 5) < 0 ∨ 10 ≤ Int32.toNatClampNeg (v h0 5)) then none else (if (((jx_up v (h0 + 7) (Int32.toNatClampNeg (v h0 5)) x1) h0 5) < 0 ∨ 10 ≤ Int32.toNatClampNeg ((jx_up v (h0 + 7) (Int32.toNatClampNeg (v h0 5)) x1) h0 5)) then none else (if (((jx_up (jx_up v (h0 + 7) (Int32.toNatClampNeg (v h0 5)) x1) (h0 + 8) (Int32.toNatClampNeg ((jx_up v (h0 + 7) (Int32.toNatClampNeg (v h0 5)) x1) h0 5)) x2) h0 5) < 0 ∨ 10 ≤ Int32.toNatClampNeg ((jx_up (jx_up v (h0 + 7) (Int32.toNatClampNeg (v h0 5)) x1) (h0 + 8) (Int32.toNatClampNeg ((jx_up v (h0 + 7) (Int32.toNatClampNeg (v h0 5)) x1) h0 5)) x2) h0 5)) then none else (if (((jx_up (jx_up (jx_up v (h0 + 7) (Int32.toNatClampNeg (v h0 5)) x1) (h0 + 8) (Int32.toNatClampNeg ((jx_up v (h0 + 7) (Int32.toNatClampNeg (v h0 5)) x1) h0 5)) x2) (h0 + 9) (Int32.toNatClampNeg ((jx_up (jx_up v (h0 + 7) (Int32.toNatClampNeg (v h0 5)) x1) (h0 + 8) (Int32.toNatClampNeg ((jx_up v (h0 + 7) (Int32.toNatClampNeg (v h0 5)) x1) h0 5)) x2) h0 5)) x3) h0 5) < 0 ∨ 10 ≤ Int32.toNatClampNeg ((jx_up (jx_up (jx_up v (h0 + 7) (Int32.toNatClampNeg (v h0 5)) x1) (h0 + 8) (Int32.toNatClampNeg ((jx_up v (h0 + 7) (Int32.toNatClampNeg (v h0 5)) x1) h0 5)) x2) (h0 + 9) (Int32.toNatClampNeg ((jx_up (jx_up v (h0 + 7) (Int32.toNatClampNeg (v h0 5)) x1) (h0 + 8) (Int32.toNatClampNeg ((jx_up v (h0 + 7) (Int32.toNatClampNeg (v h0 5)) x1) h0 5)) x2) h0 5)) x3) h0 5)) then none else (if (((jx_up (jx_up (jx_up (jx_up v (h0 + 7) (Int32.toNatClampNeg (v h0 5)) x1) (h0 + 8) (Int32.toNatClampNeg ((jx_up v (h0 + 7) (Int32.toNatClampNeg (v h0 5)) x1) h0 5)) x2) (h0 + 9) (Int32.toNatClampNeg ((jx_up (jx_up v (h0 + 7) (Int32.toNatClampNeg (v h0 5)) x1) (h0 + 8) (Int32.toNatClampNeg ((jx_up v (h0 + 7) (Int32.toNatClampNeg (v h0 5)) x1) h0 5)) x2) h0 5)) x3) (h0 + 10) (Int32.toNatClampNeg ((jx_up (jx_up (jx_up v (h0 + 7) (Int32.toNatClampNeg (v h0 5)) x1) (h0 + 8) (Int32.toNatClampNeg ((jx_up v (h0 + 7) (Int32.toNatClampNeg (v h0 5)) x1) h0 5)) x2) (h0 + 9) (Int32.toNatClampNeg ((jx_up (jx_up v (h0 + 7) (Int32.toNatClampNeg (v h0 5)) x1) (h0 + 8) (Int32.toNatClampNeg ((jx_up v (h0 + 7) (Int32.toNatClampNeg (v h0 5)) x1) h0 5)) x2) h0 5)) x3) h0 5)) x4) h0 5) < 0 ∨ 10 ≤ Int32.toNatClampNeg ((jx_up (jx_up (jx_up (jx_up v (h0 + 7) (Int32.toNatClampNeg (v h0 5)) x1) (h0 + 8) (Int32.toNatClampNeg ((jx_up v (h0 + 7) (Int32.toNatClampNeg (v h0 5)) x1) h0 5)) x2) (h0 + 9) (Int32.toNatClampNeg ((jx_up (jx_up v (h0 + 7) (Int32.toNatClampNeg (v h0 5)) x1) (h0 + 8) (Int32.toNatClampNeg ((jx_up v (h0 + 7) (Int32.toNatClampNeg (v h0 5)) x1) h0 5)) x2) h0 5)) x3) (h0 + 10) (Int32.toNatClampNeg ((jx_up (jx_up (jx_up v (h0 + 7) (Int32.toNatClampNeg (v h0 5)) x1) (h0 + 8) (Int32.toNatClampNeg ((jx_up v (h0 + 7) (Int32.toNatClampNeg (v h0 5)) x1) h0 5)) x2) (h0 + 9) (Int32.toNatClampNeg ((jx_up (jx_up v (h0 + 7) (Int32.toNatClampNeg (v h0 5)) x1) (h0 + 8) (Int32.toNatClampNeg ((jx_up v (h0 + 7) (Int32.toNatClampNeg (v h0 5)) x1) h0 5)) x2) h0 5)) x3) h0 5)) x4) h0 5)) then none else (if (((jx_up (jx_up (jx_up (jx_up (jx_up v (h0 + 7) (Int32.toNatClampNeg (v h0 5)) x1) (h0 + 8) (Int32.toNatClampNeg ((jx_up v (h0 + 7) (Int32.toNatClampNeg (v h0 5)) x1) h0 5)) x2) (h0 + 9) (Int32.toNatClampNeg ((jx_up (jx_up v (h0 + 7) (Int32.toNatClampNeg (v h0 5)) x1) (h0 + 8) (Int32.toNatClampNeg ((jx_up v (h0 + 7) (Int32.toNatClampNeg (v h0 5)) x1) h0 5)) x2) h0 5)) x3) (h0 + 10) (Int32.toNatClampNeg ((jx_up (jx_up (jx_up v (h0 + 7) (Int32.toNatClampNeg (v h0 5)) x1) (h0 + 8) (Int32.toNatClampNeg ((jx_up v (h0 + 7) (Int32.toNatClampNeg (v h0 5)) x1) h0 5)) x2) (h0 + 9) (Int32.toNatClampNeg ((jx_up (jx_up v (h0 + 7) (Int32.toNatClampNeg (v h0 5)) x1) (h0 + 8) (Int32.toNatClampNeg ((jx_up v (h0 + 7) (Int32.toNatClampNeg (v h0 5)) x1) h0 5)) x2) h0 5)) x3) h0 5)) x4) (h0 + 11) (Int32.toNatClampNeg ((jx_up (jx_up (jx_up (jx_up v (h0 + 7) (Int32.toNatClampNeg (v h0 5)) x1) (h0 + 8) (Int32.toNatClampNeg ((jx_up v (h0 + 7) (Int32.toNatClampNeg (v h0 5)) x1) h0 5)) x2) (h0 + 9) (Int32.toNatClampNeg ((jx_up (jx_up v (h0 + 7) (Int32.toNatClampNeg (v h0 5)) x1) (h0 + 8) (Int32.toNatClampNeg ((jx_up v (h0 + 7) (Int32.toNatClampNeg (v h0 5)) x1) h0 5)) x2) h0 5)) x3) (h0 + 10) (Int32.toNatClampNeg ((jx_up (jx_up (jx_up v (h0 + 7) (Int32.toNatClampNeg (v h0 5)) x1) (h0 + 8) (Int32.toNatClampNeg ((jx_up v (h0 + 7) (Int32.toNatClampNeg (v h0 5)) x1) h0 5)) x2) (h0 + 9) (Int32.toNatClampNeg ((jx_up (jx_up v (h0 + 7) (Int32.toNatClampNeg (v h0 5)) x1) (h0 + 8) (Int32.toNatClampNeg ((jx_up v (h0 + 7) (Int32.toNatClampNeg (v h0 5)) x1) h0 5)) x2) h0 5)) x3) h0 5)) x4) h0 5)) (-1)) h0 5) < 0 ∨ 10 ≤ Int32.toNatClampNeg ((jx_up (jx_up (jx_up (jx_up (jx_up v (h0 + 7) (Int32.toNatClampNeg (v h0 5)) x1) (h0 + 8) (Int32.toNatClampNeg ((jx_up v (h0 + 7) (Int32.toNatClampNeg (v h0 5)) x1) h0 5)) x2) (h0 + 9) (Int32.toNatClampNeg ((jx_up (jx_up v (h0 + 7) (Int32.toNatClampNeg (v h0 5)) x1) (h0 + 8) (Int32.toNatClampNeg ((jx_up v (h0 + 7) (Int32.toNatClampNeg (v h0 5)) x1) h0 5)) x2) h0 5)) x3) (h0 + 10) (Int32.toNatClampNeg ((jx_up (jx_up (jx_up v (h0 + 7) (Int32.toNatClampNeg (v h0 5)) x1) (h0 + 8) (Int32.toNatClampNeg ((jx_up v (h0 + 7) (Int32.toNatClampNeg (v h0 5)) x1) h0 5)) x2) (h0 + 9) (Int32.toNatClampNeg ((jx_up (jx_up v (h0 + 7) (Int32.toNatClampNeg (v h0 5)) x1) (h0 + 8) (Int32.toNatClampNeg ((jx_up v (h0 + 7) (Int32.toNatClampNeg (v h0 5)) x1) h0 5)) x2) h0 5)) x3) h0 5)) x4) (h0 + 11) (Int32.toNatClampNeg ((jx_up (jx_up (jx_up (jx_up v (h0 + 7) (Int32.toNatClampNeg (v h0 5)) x1) (h0 + 8) (Int32.toNatClampNeg ((jx_up v (h0 + 7) (Int32.toNatClampNeg (v h0 5)) x1) h0 5)) x2) (h0 + 9) (Int32.toNatClampNeg ((jx_up (jx_up v (h0 + 7) (Int32.toNatClampNeg (v h0 5)) x1) (h0 + 8) (Int32.toNatClampNeg ((jx_up v (h0 + 7) (Int32.toNatClampNeg (v h0 5)) x1) h0 5)) x2) h0 5)) x3) (h0 + 10) (Int32.toNatClampNeg ((jx_up (jx_up (jx_up v (h0 + 7) (Int32.toNatClampNeg (v h0 5)) x1) (h0 + 8) (Int32.toNatClampNeg ((jx_up v (h0 + 7) (Int32.toNatClampNeg (v h0 5)) x1) h0 5)) x2) (h0 + 9) (Int32.toNatClampNeg ((jx_up (jx_up v (h0 + 7) (Int32.toNatClampNeg (v h0 5)) x1) (h0 + 8) (Int32.toNatClampNeg ((jx_up v (h0 + 7) (Int32.toNatClampNeg (v h0 5)) x1) h0 5)) x2) h0 5)) x3) h0 5)) x4) h0 5)) (-1)) h0 5)) then none else (some (jx_up (jx_up (jx_up (jx_up (jx_up (jx_up (jx_up v (h0 + 7) (Int32.toNatClampNeg (v h0 5)) x1) (h0 + 8) (Int32.toNatClampNeg ((jx_up v (h0 + 7) (Int32.toNatClampNeg (v h0 5)) x1) h0 5)) x2) (h0 + 9) (Int32.toNatClampNeg ((jx_up (jx_up v (h0 + 7) (Int32.toNatClampNeg (v h0 5)) x1) (h0 + 8) (Int32.toNatClampNeg ((jx_up v (h0 + 7) (Int32.toNatClampNeg (v h0 5)) x1) h0 5)) x2) h0 5)) x3) (h0 + 10) (Int32.toNatClampNeg ((jx_up (jx_up (jx_up v (h0 + 7) (Int32.toNatClampNeg (v h0 5)) x1) (h0 + 8) (Int32.toNatClampNeg ((jx_up v (h0 + 7) (Int32.toNatClampNeg (v h0 5)) x1) h0 5)) x2) (h0 + 9) (Int32.toNatClampNeg ((jx_up (jx_up v (h0 + 7) (Int32.toNatClampNeg (v h0 5)) x1) (h0 + 8) (Int32.toNatClampNeg ((jx_up v (h0 + 7) (Int32.toNatClampNeg (v h0 5)) x1) h0 5)) x2) h0 5)) x3) h0 5)) x4) (h0 + 11) (Int32.toNatClampNeg ((jx_up (jx_up (jx_up (jx_up v (h0 + 7) (Int32.toNatClampNeg (v h0 5)) x1) (h0 + 8) (Int32.toNatClampNeg ((jx_up v (h0 + 7) (Int32.toNatClampNeg (v h0 5)) x1) h0 5)) x2) (h0 + 9) (Int32.toNatClampNeg ((jx_up (jx_up v (h0 + 7) (Int32.toNatClampNeg (v h0 5)) x1) (h0 + 8) (Int32.toNatClampNeg ((jx_up v (h0 + 7) (Int32.toNatClampNeg (v h0 5)) x1) h0 5)) x2) h0 5)) x3) (h0 + 10) (Int32.toNatClampNeg ((jx_up (jx_up (jx_up v (h0 + 7) (Int32.toNatClampNeg (v h0 5)) x1) (h0 + 8) (Int32.toNatClampNeg ((jx_up v (h0 + 7) (Int32.toNatClampNeg (v h0 5)) x1) h0 5)) x2) (h0 + 9) (Int32.toNatClampNeg ((jx_up (jx_up v (h0 + 7) (Int32.toNatClampNeg (v h0 5)) x1) (h0 + 8) (Int32.toNatClampNeg ((jx_up v (h0 + 7) (Int32.toNatClampNeg (v h0 5)) x1) h0 5)) x2) h0 5)) x3) h0 5)) x4) h0 5)) (-1)) (h0 + 12) (Int32.toNatClampNeg ((jx_up (jx_up (jx_up (jx_up (jx_up v (h0 + 7) (Int32.toNatClampNeg (v h0 5)) x1) (h0 + 8) (Int32.toNatClampNeg ((jx_up v (h0 + 7) (Int32.toNatClampNeg (v h0 5)) x1) h0 5)) x2) (h0 + 9) (Int32.toNatClampNeg ((jx_up (jx_up v (h0 + 7) (Int32.toNatClampNeg (v h0 5)) x1) (h0 + 8) (Int32.toNatClampNeg ((jx_up v (h0 + 7) (Int32.toNatClampNeg (v h0 5)) x1) h0 5)) x2) h0 5)) x3) (h0 + 10) (Int32.toNatClampNeg ((jx_up (jx_up (jx_up v (h0 + 7) (Int32.toNatClampNeg (v h0 5)) x1) (h0 + 8) (Int32.toNatClampNeg ((jx_up v (h0 + 7) (Int32.toNatClampNeg (v h0 5)) x1) h0 5)) x2) (h0 + 9) (Int32.toNatClampNeg ((jx_up (jx_up v (h0 + 7) (Int32.toNatClampNeg (v h0 5)) x1) (h0 + 8) (Int32.toNatClampNeg ((jx_up v (h0 + 7) (Int32.toNatClampNeg (v h0 5)) x1) h0 5)) x2) h0 5)) x3) h0 5)) x4) (h0 + 11) (Int32.toNatClampNeg ((jx_up (jx_up (jx_up (jx_up v (h0 + 7) (Int32.toNatClampNeg (v h0 5)) x1) (h0 + 8) (Int32.toNatClampNeg ((jx_up v (h0 + 7) (Int32.toNatClampNeg (v h0 5)) x1) h0 5)) x2) (h0 + 9) (Int32.toNatClampNeg ((jx_up (jx_up v (h0 + 7) (Int32.toNatClampNeg (v h0 5)) x1) (h0 + 8) (Int32.toNatClampNeg ((jx_up v (h0 + 7) (Int32.toNatClampNeg (v h0 5)) x1) h0 5)) x2) h0 5)) x3) (h0 + 10) (Int32.toNatClampNeg ((jx_up (jx_up (jx_up v (h0 + 7) (Int32.toNatClampNeg (v h0 5)) x1) (h0 + 8) (Int32.toNatClampNeg ((jx_up v (h0 + 7) (Int32.toNatClampNeg (v h0 5)) x1) h0 5)) x2) (h0 + 9) (Int32.toNatClampNeg ((jx_up (jx_up v (h0 + 7) (Int32.toNatClampNeg (v h0 5)) x1) (h0 + 8) (Int32.toNatClampNeg ((jx_up v (h0 + 7) (Int32.toNatClampNeg (v h0 5)) x1) h0 5)) x2) h0 5)) x3) h0 5)) x4) h0 5)) (-1)) h0 5)) 0) h0 5 (((jx_up (jx_up (jx_up (jx_up (jx_up (jx_up v (h0 + 7) (Int32.toNatClampNeg (v h0 5)) x1) (h0 + 8) (Int32.toNatClampNeg ((jx_up v (h0 + 7) (Int32.toNatClampNeg (v h0 5)) x1) h0 5)) x2) (h0 + 9) (Int32.toNatClampNeg ((jx_up (jx_up v (h0 + 7) (Int32.toNatClampNeg (v h0 5)) x1) (h0 + 8) (Int32.toNatClampNeg ((jx_up v (h0 + 7) (Int32.toNatClampNeg (v h0 5)) x1) h0 5)) x2) h0 5)) x3) (h0 + 10) (Int32.toNatClampNeg ((jx_up (jx_up (jx_up v (h0 + 7) (Int32.toNatClampNeg (v h0 5)) x1) (h0 + 8) (Int32.toNatClampNeg ((jx_up v (h0 + 7) (Int32.toNatClampNeg (v h0 5)) x1) h0 5)) x2) (h0 + 9) (Int32.toNatClampNeg ((jx_up (jx_up v (h0 + 7) (Int32.toNatClampNeg (v h0 5)) x1) (h0 + 8) (Int32.toNatClampNeg ((jx_up v (h0 + 7) (Int32.toNatClampNeg (v h0 5)) x1) h0 5)) x2) h0 5)) x3) h0 5)) x4) (h0 + 11) (Int32.toNatClampNeg ((jx_up (jx_up (jx_up (jx_up v (h0 + 7) (Int32.toNatClampNeg (v h0 5)) x1) (h0 + 8) (Int32.toNatClampNeg ((jx_up v (h0 + 7) (Int32.toNatClampNeg (v h0 5)) x1) h0 5)) x2) (h0 + 9) (Int32.toNatClampNeg ((jx_up (jx_up v (h0 + 7) (Int32.toNatClampNeg (v h0 5)) x1) (h0 + 8) (Int32.toNatClampNeg ((jx_up v (h0 + 7) (Int32.toNatClampNeg (v h0 5)) x1) h0 5)) x2) h0 5)) x3) (h0 + 10) (Int32.toNatClampNeg ((jx_up (jx_up (jx_up v (h0 + 7) (Int32.toNatClampNeg (v h0 5)) x1) (h0 + 8) (Int32.toNatClampNeg ((jx_up v (h0 + 7) (Int32.toNatClampNeg (v h0 5)) x1) h0 5)) x2) (h0 + 9) (Int32.toNatClampNeg ((jx_up (jx_up v (h0 + 7) (Int32.toNatClampNeg (v h0 5)) x1) (h0 + 8) (Int32.toNatClampNeg ((jx_up v (h0 + 7) (Int32.toNatClampNeg (v h0 5)) x1) h0 5)) x2) h0 5)) x3) h0 5)) x4) h0 5)) (-1)) (h0 + 12) (Int32.toNatClampNeg ((jx_up (jx_up (jx_up (jx_up (jx_up v (h0 + 7) (Int32.toNatClampNeg (v h0 5)) x1) (h0 + 8) (Int32.toNatClampNeg ((jx_up v (h0 + 7) (Int32.toNatClampNeg (v h0 5)) x1) h0 5)) x2) (h0 + 9) (Int32.toNatClampNeg ((jx_up (jx_up v (h0 + 7) (Int32.toNatClampNeg (v h0 5)) x1) (h0 + 8) (Int32.toNatClampNeg ((jx_up v (h0 + 7) (Int32.toNatClampNeg (v h0 5)) x1) h0 5)) x2) h0 5)) x3) (h0 + 10) (Int32.toNatClampNeg ((jx_up (jx_up (jx_up v (h0 + 7) (Int32.toNatClampNeg (v h0 5)) x1) (h0 + 8) (Int32.toNatClampNeg ((jx_up v (h0 + 7) (Int32.toNatClampNeg (v h0 5)) x1) h0 5)) x2) (h0 + 9) (Int32.toNatClampNeg ((jx_up (jx_up v (h0 + 7) (Int32.toNatClampNeg (v h0 5)) x1) (h0 + 8) (Int32.toNatClampNeg ((jx_up v (h0 + 7) (Int32.toNatClampNeg (v h0 5)) x1) h0 5)) x2) h0 5)) x3) h0 5)) x4) (h0 + 11) (Int32.toNatClampNeg ((jx_up (jx_up (jx_up (jx_up v (h0 + 7) (Int32.toNatClampNeg (v h0 5)) x1) (h0 + 8) (Int32.toNatClampNeg ((jx_up v (h0 + 7) (Int32.toNatClampNeg (v h0 5)) x1) h0 5)) x2) (h0 + 9) (Int32.toNatClampNeg ((jx_up (jx_up v (h0 + 7) (Int32.toNatClampNeg (v h0 5)) x1) (h0 + 8) (Int32.toNatClampNeg ((jx_up v (h0 + 7) (Int32.toNatClampNeg (v h0 5)) x1) h0 5)) x2) h0 5)) x3) (h0 + 10) (Int32.toNatClampNeg ((jx_up (jx_up (jx_up v (h0 + 7) (Int32.toNatClampNeg (v h0 5)) x1) (h0 + 8) (Int32.toNatClampNeg ((jx_up v (h0 + 7) (Int32.toNatClampNeg (v h0 5)) x1) h0 5)) x2) (h0 + 9) (Int32.toNatClampNeg ((jx_up (jx_up v (h0 + 7) (Int32.toNatClampNeg (v h0 5)) x1) (h0 + 8) (Int32.toNatClampNeg ((jx_up v (h0 + 7) (Int32.toNatClampNeg (v h0 5)) x1) h0 5)) x2) h0 5)) x3) h0 5)) x4) h0 5)) (-1)) h0 5)) 0) h0 5) + 1))))))))))
def rm_X3_addWindow : Room := { frames := 0, cells := 0, slots := 0, locals := 0 }
set_option maxHeartbeats 4000000 in
set_option maxRecDepth 100000 in
theorem k_X3_addWindow {l : Launch} {D : va_G} {cI cJ : ClassId} {ad : Nat → Nat} {A : Nat → Prop} {adK adV : Nat → Nat} (hI : jx_inj 67 ad A) (h0 : Nat) (hT0 : jx_T h0) (x1 : Int32) (x2 : Int32) (x3 : Int32) (x4 : Int32) (v : jx_V) (v' : jx_V) (hF : f_X3_addWindow h0 x1 x2 x3 x4 v = some v') : jx_Cv l D vwCl 67 cI cJ ad shX A (ex_X adK adV A) yX3_addWindow (Cond.code yX3_addWindow cX3_addWindow 5 (none) :: bigT) rm_X3_addWindow [.ref (ad h0), .int x1, .int x2, .int x3, .int x4] v v' := by
  unfold f_X3_addWindow at hF
  refine jx_enterv bigT RX3 cX3_addWindow 5 (none) [(0, .ref (ad h0)), (1, .int x1), (2, .int x2), (3, .int x3), (4, .int x4)] hI (ex_X_ok adK adV A) (by decide +kernel) rfl (Nat.le_of_ble_eq_true rfl) rfl rfl ?_
  intro p e s m args below meth c E
  have iX3 : ∀ w ∈ u_ws RX3 TX3 8, w ∈ (Cond.code yX3_addWindow cX3_addWindow 5 (none) :: bigT) := fun w h => List.mem_cons_of_mem _ (uw_X3 w h)
  refine jx_aload_n E dX3_addWindow_0 0 rfl ?_
  refine jx_geti (C := RX3) (T := TX3) (M := 8) (k := 5) E dX3_addWindow_1 (n_T0 hT0) (s_T0 hT0) rfl iX3 (by decide) rfl (List.mem_cons_of_mem _ tw_140) rfl ?_
  refine jx_bipush (x := 10) E dX3_addWindow_4 (by decide) ?_
  refine jx_icmp_ge (tgt := 92) E dX3_addWindow_6 (by decide) (fun hc1 => ?_) (fun hc1 => ?_)
  · rw [if_pos hc1] at hF
    obtain rfl := Option.some.inj hF
    exact jx_vret E dX3_addWindow_92 rfl
  · rw [if_neg hc1] at hF
    refine jx_aload_n E dX3_addWindow_9 0 rfl ?_
    refine jx_getr (C := RX3) (T := TX3) (M := 8) (k := 1) E dX3_addWindow_10 (n_T0 hT0) (s_T0 hT0) rfl iX3 (by decide) rfl (List.mem_cons_of_mem _ tw_141) rfl ?_
    refine jx_iconst (x := 0) E dX3_addWindow_13 (by decide) ?_
    refine jx_aald (h' := (h0 + 7)) E dX3_addWindow_14 (n_T2 hT0) (s_T2 hT0) (show ¬ ((0 : Int32) < 0 ∨ 6 ≤ Int32.toNatClampNeg 0) by decide) rfl ?_
    refine jx_aload_n E dX3_addWindow_15 0 rfl ?_
    refine jx_geti (C := RX3) (T := TX3) (M := 8) (k := 5) E dX3_addWindow_16 (n_T0 hT0) (s_T0 hT0) rfl iX3 (by decide) rfl (List.mem_cons_of_mem _ tw_140) rfl ?_
    refine jx_iload_n E dX3_addWindow_19 1 rfl ?_
    obtain ⟨hg2, hF⟩ := jx_guard hF
    refine jx_iast (h := (h0 + 7)) (j := (Int32.toNatClampNeg (v h0 5))) E dX3_addWindow_20 (n_T7 hT0) (s_T7 hT0) hg2 rfl ?_
    refine jx_aload_n E dX3_addWindow_21 0 rfl ?_
    refine jx_getr (C := RX3) (T := TX3) (M := 8) (k := 1) E dX3_addWindow_22 (n_T0 hT0) (s_T0 hT0) rfl iX3 (by decide) rfl (List.mem_cons_of_mem _ tw_141) rfl ?_
    refine jx_iconst (x := 1) E dX3_addWindow_25 (by decide) ?_
    refine jx_aald (h' := (h0 + 8)) E dX3_addWindow_26 (n_T2 hT0) (s_T2 hT0) (show ¬ ((1 : Int32) < 0 ∨ 6 ≤ Int32.toNatClampNeg 1) by decide) rfl ?_
    refine jx_aload_n E dX3_addWindow_27 0 rfl ?_
    refine jx_geti (C := RX3) (T := TX3) (M := 8) (k := 5) E dX3_addWindow_28 (n_T0 hT0) (s_T0 hT0) rfl iX3 (by decide) rfl (List.mem_cons_of_mem _ tw_140) rfl ?_
    refine jx_iload_n E dX3_addWindow_31 2 rfl ?_
    obtain ⟨hg3, hF⟩ := jx_guard hF
    refine jx_iast (h := (h0 + 8)) (j := (Int32.toNatClampNeg ((jx_up v (h0 + 7) (Int32.toNatClampNeg (v h0 5)) x1) h0 5))) E dX3_addWindow_32 (n_T8 hT0) (s_T8 hT0) hg3 rfl ?_
    refine jx_aload_n E dX3_addWindow_33 0 rfl ?_
    refine jx_getr (C := RX3) (T := TX3) (M := 8) (k := 1) E dX3_addWindow_34 (n_T0 hT0) (s_T0 hT0) rfl iX3 (by decide) rfl (List.mem_cons_of_mem _ tw_141) rfl ?_
    refine jx_iconst (x := 2) E dX3_addWindow_37 (by decide) ?_
    refine jx_aald (h' := (h0 + 9)) E dX3_addWindow_38 (n_T2 hT0) (s_T2 hT0) (show ¬ ((2 : Int32) < 0 ∨ 6 ≤ Int32.toNatClampNeg 2) by decide) rfl ?_
    refine jx_aload_n E dX3_addWindow_39 0 rfl ?_
    refine jx_geti (C := RX3) (T := TX3) (M := 8) (k := 5) E dX3_addWindow_40 (n_T0 hT0) (s_T0 hT0) rfl iX3 (by decide) rfl (List.mem_cons_of_mem _ tw_140) rfl ?_
    refine jx_iload_n E dX3_addWindow_43 3 rfl ?_
    obtain ⟨hg4, hF⟩ := jx_guard hF
    refine jx_iast (h := (h0 + 9)) (j := (Int32.toNatClampNeg ((jx_up (jx_up v (h0 + 7) (Int32.toNatClampNeg (v h0 5)) x1) (h0 + 8) (Int32.toNatClampNeg ((jx_up v (h0 + 7) (Int32.toNatClampNeg (v h0 5)) x1) h0 5)) x2) h0 5))) E dX3_addWindow_44 (n_T9 hT0) (s_T9 hT0) hg4 rfl ?_
    refine jx_aload_n E dX3_addWindow_45 0 rfl ?_
    refine jx_getr (C := RX3) (T := TX3) (M := 8) (k := 1) E dX3_addWindow_46 (n_T0 hT0) (s_T0 hT0) rfl iX3 (by decide) rfl (List.mem_cons_of_mem _ tw_141) rfl ?_
    refine jx_iconst (x := 3) E dX3_addWindow_49 (by decide) ?_
    refine jx_aald (h' := (h0 + 10)) E dX3_addWindow_50 (n_T2 hT0) (s_T2 hT0) (show ¬ ((3 : Int32) < 0 ∨ 6 ≤ Int32.toNatClampNeg 3) by decide) rfl ?_
    refine jx_aload_n E dX3_addWindow_51 0 rfl ?_
    refine jx_geti (C := RX3) (T := TX3) (M := 8) (k := 5) E dX3_addWindow_52 (n_T0 hT0) (s_T0 hT0) rfl iX3 (by decide) rfl (List.mem_cons_of_mem _ tw_140) rfl ?_
    refine jx_iload E dX3_addWindow_55 4 rfl ?_
    obtain ⟨hg5, hF⟩ := jx_guard hF
    refine jx_iast (h := (h0 + 10)) (j := (Int32.toNatClampNeg ((jx_up (jx_up (jx_up v (h0 + 7) (Int32.toNatClampNeg (v h0 5)) x1) (h0 + 8) (Int32.toNatClampNeg ((jx_up v (h0 + 7) (Int32.toNatClampNeg (v h0 5)) x1) h0 5)) x2) (h0 + 9) (Int32.toNatClampNeg ((jx_up (jx_up v (h0 + 7) (Int32.toNatClampNeg (v h0 5)) x1) (h0 + 8) (Int32.toNatClampNeg ((jx_up v (h0 + 7) (Int32.toNatClampNeg (v h0 5)) x1) h0 5)) x2) h0 5)) x3) h0 5))) E dX3_addWindow_57 (n_T10 hT0) (s_T10 hT0) hg5 rfl ?_
    refine jx_aload_n E dX3_addWindow_58 0 rfl ?_
    refine jx_getr (C := RX3) (T := TX3) (M := 8) (k := 1) E dX3_addWindow_59 (n_T0 hT0) (s_T0 hT0) rfl iX3 (by decide) rfl (List.mem_cons_of_mem _ tw_141) rfl ?_
    refine jx_iconst (x := 4) E dX3_addWindow_62 (by decide) ?_
    refine jx_aald (h' := (h0 + 11)) E dX3_addWindow_63 (n_T2 hT0) (s_T2 hT0) (show ¬ ((4 : Int32) < 0 ∨ 6 ≤ Int32.toNatClampNeg 4) by decide) rfl ?_
    refine jx_aload_n E dX3_addWindow_64 0 rfl ?_
    refine jx_geti (C := RX3) (T := TX3) (M := 8) (k := 5) E dX3_addWindow_65 (n_T0 hT0) (s_T0 hT0) rfl iX3 (by decide) rfl (List.mem_cons_of_mem _ tw_140) rfl ?_
    refine jx_iconst (x := -1) E dX3_addWindow_68 (by decide) ?_
    obtain ⟨hg6, hF⟩ := jx_guard hF
    refine jx_iast (h := (h0 + 11)) (j := (Int32.toNatClampNeg ((jx_up (jx_up (jx_up (jx_up v (h0 + 7) (Int32.toNatClampNeg (v h0 5)) x1) (h0 + 8) (Int32.toNatClampNeg ((jx_up v (h0 + 7) (Int32.toNatClampNeg (v h0 5)) x1) h0 5)) x2) (h0 + 9) (Int32.toNatClampNeg ((jx_up (jx_up v (h0 + 7) (Int32.toNatClampNeg (v h0 5)) x1) (h0 + 8) (Int32.toNatClampNeg ((jx_up v (h0 + 7) (Int32.toNatClampNeg (v h0 5)) x1) h0 5)) x2) h0 5)) x3) (h0 + 10) (Int32.toNatClampNeg ((jx_up (jx_up (jx_up v (h0 + 7) (Int32.toNatClampNeg (v h0 5)) x1) (h0 + 8) (Int32.toNatClampNeg ((jx_up v (h0 + 7) (Int32.toNatClampNeg (v h0 5)) x1) h0 5)) x2) (h0 + 9) (Int32.toNatClampNeg ((jx_up (jx_up v (h0 + 7) (Int32.toNatClampNeg (v h0 5)) x1) (h0 + 8) (Int32.toNatClampNeg ((jx_up v (h0 + 7) (Int32.toNatClampNeg (v h0 5)) x1) h0 5)) x2) h0 5)) x3) h0 5)) x4) h0 5))) E dX3_addWindow_69 (n_T11 hT0) (s_T11 hT0) hg6 rfl ?_
    refine jx_aload_n E dX3_addWindow_70 0 rfl ?_
    refine jx_getr (C := RX3) (T := TX3) (M := 8) (k := 1) E dX3_addWindow_71 (n_T0 hT0) (s_T0 hT0) rfl iX3 (by decide) rfl (List.mem_cons_of_mem _ tw_141) rfl ?_
    refine jx_iconst (x := 5) E dX3_addWindow_74 (by decide) ?_
    refine jx_aald (h' := (h0 + 12)) E dX3_addWindow_75 (n_T2 hT0) (s_T2 hT0) (show ¬ ((5 : Int32) < 0 ∨ 6 ≤ Int32.toNatClampNeg 5) by decide) rfl ?_
    refine jx_aload_n E dX3_addWindow_76 0 rfl ?_
    refine jx_geti (C := RX3) (T := TX3) (M := 8) (k := 5) E dX3_addWindow_77 (n_T0 hT0) (s_T0 hT0) rfl iX3 (by decide) rfl (List.mem_cons_of_mem _ tw_140) rfl ?_
    refine jx_iconst (x := 0) E dX3_addWindow_80 (by decide) ?_
    obtain ⟨hg7, hF⟩ := jx_guard hF
    refine jx_iast (h := (h0 + 12)) (j := (Int32.toNatClampNeg ((jx_up (jx_up (jx_up (jx_up (jx_up v (h0 + 7) (Int32.toNatClampNeg (v h0 5)) x1) (h0 + 8) (Int32.toNatClampNeg ((jx_up v (h0 + 7) (Int32.toNatClampNeg (v h0 5)) x1) h0 5)) x2) (h0 + 9) (Int32.toNatClampNeg ((jx_up (jx_up v (h0 + 7) (Int32.toNatClampNeg (v h0 5)) x1) (h0 + 8) (Int32.toNatClampNeg ((jx_up v (h0 + 7) (Int32.toNatClampNeg (v h0 5)) x1) h0 5)) x2) h0 5)) x3) (h0 + 10) (Int32.toNatClampNeg ((jx_up (jx_up (jx_up v (h0 + 7) (Int32.toNatClampNeg (v h0 5)) x1) (h0 + 8) (Int32.toNatClampNeg ((jx_up v (h0 + 7) (Int32.toNatClampNeg (v h0 5)) x1) h0 5)) x2) (h0 + 9) (Int32.toNatClampNeg ((jx_up (jx_up v (h0 + 7) (Int32.toNatClampNeg (v h0 5)) x1) (h0 + 8) (Int32.toNatClampNeg ((jx_up v (h0 + 7) (Int32.toNatClampNeg (v h0 5)) x1) h0 5)) x2) h0 5)) x3) h0 5)) x4) (h0 + 11) (Int32.toNatClampNeg ((jx_up (jx_up (jx_up (jx_up v (h0 + 7) (Int32.toNatClampNeg (v h0 5)) x1) (h0 + 8) (Int32.toNatClampNeg ((jx_up v (h0 + 7) (Int32.toNatClampNeg (v h0 5)) x1) h0 5)) x2) (h0 + 9) (Int32.toNatClampNeg ((jx_up (jx_up v (h0 + 7) (Int32.toNatClampNeg (v h0 5)) x1) (h0 + 8) (Int32.toNatClampNeg ((jx_up v (h0 + 7) (Int32.toNatClampNeg (v h0 5)) x1) h0 5)) x2) h0 5)) x3) (h0 + 10) (Int32.toNatClampNeg ((jx_up (jx_up (jx_up v (h0 + 7) (Int32.toNatClampNeg (v h0 5)) x1) (h0 + 8) (Int32.toNatClampNeg ((jx_up v (h0 + 7) (Int32.toNatClampNeg (v h0 5)) x1) h0 5)) x2) (h0 + 9) (Int32.toNatClampNeg ((jx_up (jx_up v (h0 + 7) (Int32.toNatClampNeg (v h0 5)) x1) (h0 + 8) (Int32.toNatClampNeg ((jx_up v (h0 + 7) (Int32.toNatClampNeg (v h0 5)) x1) h0 5)) x2) h0 5)) x3) h0 5)) x4) h0 5)) (-1)) h0 5))) E dX3_addWindow_81 (n_T12 hT0) (s_T12 hT0) hg7 rfl ?_
    refine jx_aload_n E dX3_addWindow_82 0 rfl ?_
    refine jx_dup E dX3_addWindow_83 rfl ?_
    refine jx_geti (C := RX3) (T := TX3) (M := 8) (k := 5) E dX3_addWindow_84 (n_T0 hT0) (s_T0 hT0) rfl iX3 (by decide) rfl (List.mem_cons_of_mem _ tw_140) rfl ?_
    refine jx_iconst (x := 1) E dX3_addWindow_87 (by decide) ?_
    refine jx_iadd E dX3_addWindow_88 ?_
    refine jx_puti (C := RX3) (T := TX3) (M := 8) (k := 5) (ty := .int) E tyX3 dX3_addWindow_89 (n_T0 hT0) (s_T0 hT0) rfl iX3 (by decide) rfl (List.mem_cons_of_mem _ tw_140) tyX3_ok nmX3 rfl (by decide +kernel) rfl rfl rfl ?_
    obtain rfl := Option.some.inj hF
    exact jx_vret E dX3_addWindow_92 rfl
def f_X2_readWindow (h1 : Nat) (v : jx_V) : Option (jx_V) := ((f_X2_nextToken v).bind (fun v1 => ((f_X2_takeWord 7 v1).bind (fun v2 => ((f_X2_takeNumber 25 v2).bind (fun (r3, v3) => ((f_X2_takeWord 12 v3).bind (fun v4 => ((f_X2_takeNumber 10 v4).bind (fun (r5, v5) => ((f_X2_takeWord 13 v5).bind (fun v6 => ((f_X2_takeNumber 4 v6).bind (fun (r7, v7) => ((f_X2_takeWord 14 v7).bind (fun v8 => ((f_X2_takeNumber 4 v8).bind (fun (r9, v9) => (if 0 ≤ (v9 53 6) then (some v9) else ((f_X3_addWindow h1 r3 r5 r7 r9 v9).bind (fun v11 => (some v11))))))))))))))))))))))
def rm_X2_readWindow : Room := { frames := 6, cells := 0, slots := 0, locals := 128 }
set_option maxHeartbeats 4000000 in
set_option maxRecDepth 100000 in
theorem k_X2_readWindow {l : Launch} {D : va_G} {cI cJ : ClassId} {ad : Nat → Nat} {A : Nat → Prop} {adK adV : Nat → Nat} (hI : jx_inj 67 ad A) (h1 : Nat) (hT1 : jx_T h1) (v : jx_V) (v' : jx_V) (hF : f_X2_readWindow h1 v = some v') : jx_Cv l D vwCl 67 cI cJ ad shX A (ex_X adK adV A) yX2_readWindow (Cond.code yX2_readWindow cX2_readWindow 6 (none) :: bigT) rm_X2_readWindow [.ref (ad 53), .ref (ad h1)] v v' := by
  unfold f_X2_readWindow at hF
  refine jx_enterv bigT RX2 cX2_readWindow 6 (none) [(0, .ref (ad 53)), (1, .ref (ad h1))] hI (ex_X_ok adK adV A) (by decide +kernel) rfl (Nat.le_of_ble_eq_true rfl) rfl rfl ?_
  intro p e s m args below meth c E
  have iX2 : ∀ w ∈ u_ws RX2 TX2 7, w ∈ (Cond.code yX2_readWindow cX2_readWindow 6 (none) :: bigT) := fun w h => List.mem_cons_of_mem _ (uw_X2 w h)
  refine jx_aload_n E dX2_readWindow_0 0 rfl ?_
  obtain ⟨v1, hc1, hF⟩ := jx_bind hF
  try dsimp only at hF
  refine jx_callVv (As := []) (st := []) (h := 53) E dX2_readWindow_1 0 rfl (k_X2_nextToken hI  v v1 hc1) (gb_V (List.mem_cons_of_mem _ tw_122) (List.mem_cons_of_mem _ tw_123) (List.mem_cons_of_mem _ tw_124) (List.mem_cons_of_mem _ tw_100) tw_121) rfl rfl rfl dd_X2_nextToken rfl (Nat.le_of_ble_eq_true rfl) s_X53 rfl ⟨by decide, by decide⟩ ⟨Nat.le_refl 0, Nat.le_refl 0⟩ (Nat.le_of_ble_eq_true rfl) ?_
  refine jx_aload_n E dX2_readWindow_4 0 rfl ?_
  refine jx_ldcS (q := adK 7) E dX2_readWindow_5 ((jx_ex E).2.2.1 7 (by decide)) ?_
  obtain ⟨v2, hc2, hF⟩ := jx_bind hF
  try dsimp only at hF
  refine jx_callVv (As := [.ref (adK 7)]) (st := []) (h := 53) E dX2_readWindow_7 1 rfl (k_X2_takeWord hI 7 (by decide) v1 v2 hc2) (gb_V (List.mem_cons_of_mem _ tw_126) (List.mem_cons_of_mem _ tw_127) (List.mem_cons_of_mem _ tw_128) (List.mem_cons_of_mem _ tw_100) tw_125) rfl rfl rfl dd_X2_takeWord rfl (Nat.le_of_ble_eq_true rfl) s_X53 rfl ⟨by decide, by decide⟩ ⟨Nat.le_refl 0, Nat.le_refl 0⟩ (Nat.le_of_ble_eq_true rfl) ?_
  refine jx_aload_n E dX2_readWindow_10 0 rfl ?_
  refine jx_bipush (x := 25) E dX2_readWindow_11 (by decide) ?_
  obtain ⟨⟨r3, v3⟩, hc3, hF⟩ := jx_bind hF
  try dsimp only at hF
  refine jx_callVi (As := [.int 25]) (st := []) (h := 53) E dX2_readWindow_13 1 rfl (k_X2_takeNumber hI 25 v2 r3 v3 hc3) (gb_V (List.mem_cons_of_mem _ tw_134) (List.mem_cons_of_mem _ tw_135) (List.mem_cons_of_mem _ tw_136) (List.mem_cons_of_mem _ tw_100) tw_133) rfl rfl rfl dd_X2_takeNumber rfl (Nat.le_of_ble_eq_true rfl) s_X53 rfl ⟨by decide, by decide⟩ ⟨Nat.le_refl 0, Nat.le_refl 0⟩ (Nat.le_of_ble_eq_true rfl) ?_
  refine jx_istore_n (lv' := [(2, .int r3), (0, .ref (ad 53)), (1, .ref (ad h1))]) E dX2_readWindow_16 (by decide) rfl ?_
  refine jx_aload_n E dX2_readWindow_17 1 rfl ?_
  refine jx_ldcS (q := adK 12) E dX2_readWindow_18 ((jx_ex E).2.2.1 12 (by decide)) ?_
  obtain ⟨v4, hc4, hF⟩ := jx_bind hF
  try dsimp only at hF
  refine jx_callVv (As := [.ref (adK 12)]) (st := []) (h := 53) E dX2_readWindow_20 1 rfl (k_X2_takeWord hI 12 (by decide) v3 v4 hc4) (gb_V (List.mem_cons_of_mem _ tw_126) (List.mem_cons_of_mem _ tw_127) (List.mem_cons_of_mem _ tw_128) (List.mem_cons_of_mem _ tw_100) tw_125) rfl rfl rfl dd_X2_takeWord rfl (Nat.le_of_ble_eq_true rfl) s_X53 rfl ⟨by decide, by decide⟩ ⟨Nat.le_refl 0, Nat.le_refl 0⟩ (Nat.le_of_ble_eq_true rfl) ?_
  refine jx_aload_n E dX2_readWindow_23 1 rfl ?_
  refine jx_bipush (x := 10) E dX2_readWindow_24 (by decide) ?_
  obtain ⟨⟨r5, v5⟩, hc5, hF⟩ := jx_bind hF
  try dsimp only at hF
  refine jx_callVi (As := [.int 10]) (st := []) (h := 53) E dX2_readWindow_26 1 rfl (k_X2_takeNumber hI 10 v4 r5 v5 hc5) (gb_V (List.mem_cons_of_mem _ tw_134) (List.mem_cons_of_mem _ tw_135) (List.mem_cons_of_mem _ tw_136) (List.mem_cons_of_mem _ tw_100) tw_133) rfl rfl rfl dd_X2_takeNumber rfl (Nat.le_of_ble_eq_true rfl) s_X53 rfl ⟨by decide, by decide⟩ ⟨Nat.le_refl 0, Nat.le_refl 0⟩ (Nat.le_of_ble_eq_true rfl) ?_
  refine jx_istore_n (lv' := [(3, .int r5), (2, .int r3), (0, .ref (ad 53)), (1, .ref (ad h1))]) E dX2_readWindow_29 (by decide) rfl ?_
  refine jx_aload_n E dX2_readWindow_30 2 rfl ?_
  refine jx_ldcS (q := adK 13) E dX2_readWindow_31 ((jx_ex E).2.2.1 13 (by decide)) ?_
  obtain ⟨v6, hc6, hF⟩ := jx_bind hF
  try dsimp only at hF
  refine jx_callVv (As := [.ref (adK 13)]) (st := []) (h := 53) E dX2_readWindow_33 1 rfl (k_X2_takeWord hI 13 (by decide) v5 v6 hc6) (gb_V (List.mem_cons_of_mem _ tw_126) (List.mem_cons_of_mem _ tw_127) (List.mem_cons_of_mem _ tw_128) (List.mem_cons_of_mem _ tw_100) tw_125) rfl rfl rfl dd_X2_takeWord rfl (Nat.le_of_ble_eq_true rfl) s_X53 rfl ⟨by decide, by decide⟩ ⟨Nat.le_refl 0, Nat.le_refl 0⟩ (Nat.le_of_ble_eq_true rfl) ?_
  refine jx_aload_n E dX2_readWindow_36 2 rfl ?_
  refine jx_iconst (x := 4) E dX2_readWindow_37 (by decide) ?_
  obtain ⟨⟨r7, v7⟩, hc7, hF⟩ := jx_bind hF
  try dsimp only at hF
  refine jx_callVi (As := [.int 4]) (st := []) (h := 53) E dX2_readWindow_38 1 rfl (k_X2_takeNumber hI 4 v6 r7 v7 hc7) (gb_V (List.mem_cons_of_mem _ tw_134) (List.mem_cons_of_mem _ tw_135) (List.mem_cons_of_mem _ tw_136) (List.mem_cons_of_mem _ tw_100) tw_133) rfl rfl rfl dd_X2_takeNumber rfl (Nat.le_of_ble_eq_true rfl) s_X53 rfl ⟨by decide, by decide⟩ ⟨Nat.le_refl 0, Nat.le_refl 0⟩ (Nat.le_of_ble_eq_true rfl) ?_
  refine jx_istore (lv' := [(4, .int r7), (3, .int r5), (2, .int r3), (0, .ref (ad 53)), (1, .ref (ad h1))]) E dX2_readWindow_41 (by decide) rfl ?_
  refine jx_aload_n E dX2_readWindow_43 3 rfl ?_
  refine jx_ldcS (q := adK 14) E dX2_readWindow_44 ((jx_ex E).2.2.1 14 (by decide)) ?_
  obtain ⟨v8, hc8, hF⟩ := jx_bind hF
  try dsimp only at hF
  refine jx_callVv (As := [.ref (adK 14)]) (st := []) (h := 53) E dX2_readWindow_46 1 rfl (k_X2_takeWord hI 14 (by decide) v7 v8 hc8) (gb_V (List.mem_cons_of_mem _ tw_126) (List.mem_cons_of_mem _ tw_127) (List.mem_cons_of_mem _ tw_128) (List.mem_cons_of_mem _ tw_100) tw_125) rfl rfl rfl dd_X2_takeWord rfl (Nat.le_of_ble_eq_true rfl) s_X53 rfl ⟨by decide, by decide⟩ ⟨Nat.le_refl 0, Nat.le_refl 0⟩ (Nat.le_of_ble_eq_true rfl) ?_
  refine jx_aload_n E dX2_readWindow_49 3 rfl ?_
  refine jx_iconst (x := 4) E dX2_readWindow_50 (by decide) ?_
  obtain ⟨⟨r9, v9⟩, hc9, hF⟩ := jx_bind hF
  try dsimp only at hF
  refine jx_callVi (As := [.int 4]) (st := []) (h := 53) E dX2_readWindow_51 1 rfl (k_X2_takeNumber hI 4 v8 r9 v9 hc9) (gb_V (List.mem_cons_of_mem _ tw_134) (List.mem_cons_of_mem _ tw_135) (List.mem_cons_of_mem _ tw_136) (List.mem_cons_of_mem _ tw_100) tw_133) rfl rfl rfl dd_X2_takeNumber rfl (Nat.le_of_ble_eq_true rfl) s_X53 rfl ⟨by decide, by decide⟩ ⟨Nat.le_refl 0, Nat.le_refl 0⟩ (Nat.le_of_ble_eq_true rfl) ?_
  refine jx_istore (lv' := [(5, .int r9), (4, .int r7), (3, .int r5), (2, .int r3), (0, .ref (ad 53)), (1, .ref (ad h1))]) E dX2_readWindow_54 (by decide) rfl ?_
  refine jx_aload_n E dX2_readWindow_56 4 rfl ?_
  refine jx_geti (C := RX2) (T := TX2) (M := 7) (k := 6) E dX2_readWindow_57 (Nat.le_of_ble_eq_true rfl) s_X53 rfl iX2 (by decide) rfl (List.mem_cons_of_mem _ tw_116) rfl ?_
  refine jx_if_ge (tgt := 73) E dX2_readWindow_60 (by decide) (fun hc10 => ?_) (fun hc10 => ?_)
  · rw [if_pos hc10] at hF
    obtain rfl := Option.some.inj hF
    exact jx_vret E dX2_readWindow_73 rfl
  · rw [if_neg hc10] at hF
    refine jx_aload_n E dX2_readWindow_63 5 rfl ?_
    refine jx_iload_n E dX2_readWindow_64 3 rfl ?_
    refine jx_iload_n E dX2_readWindow_65 2 rfl ?_
    refine jx_iload E dX2_readWindow_66 1 rfl ?_
    refine jx_iload E dX2_readWindow_68 0 rfl ?_
    obtain ⟨v11, hc11, hF⟩ := jx_bind hF
    try dsimp only at hF
    refine jx_callNv (As := [.int r3, .int r5, .int r7, .int r9]) (st := []) (h := h1) E dX2_readWindow_70 4 rfl (k_X3_addWindow hI h1 hT1 r3 r5 r7 r9 v9 v11 hc11) (gb_N tw_142) rfl rfl rfl (ex_m37 (jx_ex E)) (List.mem_cons_of_mem _ tw_33) (List.mem_cons_of_mem _ tw_143) (List.mem_cons_of_mem _ tw_144) dd_X3_addWindow.2 rfl (n_T0 hT1) (s_T0 hT1) rfl ⟨by decide, by decide⟩ ⟨Nat.le_refl 0, Nat.le_refl 0⟩ (Nat.le_of_ble_eq_true rfl) ?_
    obtain rfl := Option.some.inj hF
    exact jx_vret E dX2_readWindow_73 rfl
def f_X2_readPrice (h1 : Nat) (v : jx_V) : Option (jx_V) := ((f_X2_nextToken v).bind (fun v1 => ((f_X2_takeNumber 4 v1).bind (fun (r2, v2) => ((f_X2_takeNumber 100 v2).bind (fun (r3, v3) => (if 0 ≤ (v3 53 6) then (some v3) else (if (r2 < 0 ∨ 4 ≤ Int32.toNatClampNeg r2) then none else (some (jx_up v3 (h1 + 13) (Int32.toNatClampNeg r2) r3))))))))))
def rm_X2_readPrice : Room := { frames := 3, cells := 0, slots := 0, locals := 64 }
set_option maxHeartbeats 4000000 in
set_option maxRecDepth 100000 in
theorem k_X2_readPrice {l : Launch} {D : va_G} {cI cJ : ClassId} {ad : Nat → Nat} {A : Nat → Prop} {adK adV : Nat → Nat} (hI : jx_inj 67 ad A) (h1 : Nat) (hT1 : jx_T h1) (v : jx_V) (v' : jx_V) (hF : f_X2_readPrice h1 v = some v') : jx_Cv l D vwCl 67 cI cJ ad shX A (ex_X adK adV A) yX2_readPrice (Cond.code yX2_readPrice cX2_readPrice 4 (none) :: bigT) rm_X2_readPrice [.ref (ad 53), .ref (ad h1)] v v' := by
  unfold f_X2_readPrice at hF
  refine jx_enterv bigT RX2 cX2_readPrice 4 (none) [(0, .ref (ad 53)), (1, .ref (ad h1))] hI (ex_X_ok adK adV A) (by decide +kernel) rfl (Nat.le_of_ble_eq_true rfl) rfl rfl ?_
  intro p e s m args below meth c E
  have iX2 : ∀ w ∈ u_ws RX2 TX2 7, w ∈ (Cond.code yX2_readPrice cX2_readPrice 4 (none) :: bigT) := fun w h => List.mem_cons_of_mem _ (uw_X2 w h)
  have iX3 : ∀ w ∈ u_ws RX3 TX3 8, w ∈ (Cond.code yX2_readPrice cX2_readPrice 4 (none) :: bigT) := fun w h => List.mem_cons_of_mem _ (uw_X3 w h)
  refine jx_aload_n E dX2_readPrice_0 0 rfl ?_
  obtain ⟨v1, hc1, hF⟩ := jx_bind hF
  try dsimp only at hF
  refine jx_callVv (As := []) (st := []) (h := 53) E dX2_readPrice_1 0 rfl (k_X2_nextToken hI  v v1 hc1) (gb_V (List.mem_cons_of_mem _ tw_122) (List.mem_cons_of_mem _ tw_123) (List.mem_cons_of_mem _ tw_124) (List.mem_cons_of_mem _ tw_100) tw_121) rfl rfl rfl dd_X2_nextToken rfl (Nat.le_of_ble_eq_true rfl) s_X53 rfl ⟨by decide, by decide⟩ ⟨Nat.le_refl 0, Nat.le_refl 0⟩ (Nat.le_of_ble_eq_true rfl) ?_
  refine jx_aload_n E dX2_readPrice_4 0 rfl ?_
  refine jx_iconst (x := 4) E dX2_readPrice_5 (by decide) ?_
  obtain ⟨⟨r2, v2⟩, hc2, hF⟩ := jx_bind hF
  try dsimp only at hF
  refine jx_callVi (As := [.int 4]) (st := []) (h := 53) E dX2_readPrice_6 1 rfl (k_X2_takeNumber hI 4 v1 r2 v2 hc2) (gb_V (List.mem_cons_of_mem _ tw_134) (List.mem_cons_of_mem _ tw_135) (List.mem_cons_of_mem _ tw_136) (List.mem_cons_of_mem _ tw_100) tw_133) rfl rfl rfl dd_X2_takeNumber rfl (Nat.le_of_ble_eq_true rfl) s_X53 rfl ⟨by decide, by decide⟩ ⟨Nat.le_refl 0, Nat.le_refl 0⟩ (Nat.le_of_ble_eq_true rfl) ?_
  refine jx_istore_n (lv' := [(2, .int r2), (0, .ref (ad 53)), (1, .ref (ad h1))]) E dX2_readPrice_9 (by decide) rfl ?_
  refine jx_aload_n E dX2_readPrice_10 1 rfl ?_
  refine jx_bipush (x := 100) E dX2_readPrice_11 (by decide) ?_
  obtain ⟨⟨r3, v3⟩, hc3, hF⟩ := jx_bind hF
  try dsimp only at hF
  refine jx_callVi (As := [.int 100]) (st := []) (h := 53) E dX2_readPrice_13 1 rfl (k_X2_takeNumber hI 100 v2 r3 v3 hc3) (gb_V (List.mem_cons_of_mem _ tw_134) (List.mem_cons_of_mem _ tw_135) (List.mem_cons_of_mem _ tw_136) (List.mem_cons_of_mem _ tw_100) tw_133) rfl rfl rfl dd_X2_takeNumber rfl (Nat.le_of_ble_eq_true rfl) s_X53 rfl ⟨by decide, by decide⟩ ⟨Nat.le_refl 0, Nat.le_refl 0⟩ (Nat.le_of_ble_eq_true rfl) ?_
  refine jx_istore_n (lv' := [(3, .int r3), (2, .int r2), (0, .ref (ad 53)), (1, .ref (ad h1))]) E dX2_readPrice_16 (by decide) rfl ?_
  refine jx_aload_n E dX2_readPrice_17 2 rfl ?_
  refine jx_geti (C := RX2) (T := TX2) (M := 7) (k := 6) E dX2_readPrice_18 (Nat.le_of_ble_eq_true rfl) s_X53 rfl iX2 (by decide) rfl (List.mem_cons_of_mem _ tw_116) rfl ?_
  refine jx_if_ge (tgt := 31) E dX2_readPrice_21 (by decide) (fun hc4 => ?_) (fun hc4 => ?_)
  · rw [if_pos hc4] at hF
    obtain rfl := Option.some.inj hF
    exact jx_vret E dX2_readPrice_31 rfl
  · rw [if_neg hc4] at hF
    refine jx_aload_n E dX2_readPrice_24 3 rfl ?_
    refine jx_getrN (C := RX3) (T := TX3) (M := 8) (k := 2) E dX2_readPrice_25 (n_T0 hT1) (s_T0 hT1) rfl iX3 (by decide) rfl (ex_f5 (jx_ex E)) rfl ?_
    refine jx_iload_n E dX2_readPrice_28 1 rfl ?_
    refine jx_iload_n E dX2_readPrice_29 0 rfl ?_
    obtain ⟨hg5, hF⟩ := jx_guard hF
    refine jx_iast (h := (h1 + 13)) (j := (Int32.toNatClampNeg r2)) E dX2_readPrice_30 (n_T13 hT1) (s_T13 hT1) hg5 rfl ?_
    obtain rfl := Option.some.inj hF
    exact jx_vret E dX2_readPrice_31 rfl
def f_X3_takeOff (h0 : Nat) (x1 : Int32) (v : jx_V) : Option (jx_V) := (if (x1 < 0 ∨ 25 ≤ Int32.toNatClampNeg x1) then none else (some (jx_up v (h0 + 3) (Int32.toNatClampNeg x1) (-1))))
def rm_X3_takeOff : Room := { frames := 0, cells := 0, slots := 0, locals := 0 }
set_option maxHeartbeats 4000000 in
set_option maxRecDepth 100000 in
theorem k_X3_takeOff {l : Launch} {D : va_G} {cI cJ : ClassId} {ad : Nat → Nat} {A : Nat → Prop} {adK adV : Nat → Nat} (hI : jx_inj 67 ad A) (h0 : Nat) (hT0 : jx_T h0) (x1 : Int32) (v : jx_V) (v' : jx_V) (hF : f_X3_takeOff h0 x1 v = some v') : jx_Cv l D vwCl 67 cI cJ ad shX A (ex_X adK adV A) yX3_takeOff (Cond.code yX3_takeOff cX3_takeOff 2 (none) :: bigT) rm_X3_takeOff [.ref (ad h0), .int x1] v v' := by
  unfold f_X3_takeOff at hF
  refine jx_enterv bigT RX3 cX3_takeOff 2 (none) [(0, .ref (ad h0)), (1, .int x1)] hI (ex_X_ok adK adV A) (by decide +kernel) rfl (Nat.le_of_ble_eq_true rfl) rfl rfl ?_
  intro p e s m args below meth c E
  have iX3 : ∀ w ∈ u_ws RX3 TX3 8, w ∈ (Cond.code yX3_takeOff cX3_takeOff 2 (none) :: bigT) := fun w h => List.mem_cons_of_mem _ (uw_X3 w h)
  refine jx_aload_n E dX3_takeOff_0 0 rfl ?_
  refine jx_getr (C := RX3) (T := TX3) (M := 8) (k := 0) E dX3_takeOff_1 (n_T0 hT0) (s_T0 hT0) rfl iX3 (by decide) rfl (List.mem_cons_of_mem _ tw_27) rfl ?_
  refine jx_iconst (x := 0) E dX3_takeOff_4 (by decide) ?_
  refine jx_aald (h' := (h0 + 3)) E dX3_takeOff_5 (n_T1 hT0) (s_T1 hT0) (show ¬ ((0 : Int32) < 0 ∨ 4 ≤ Int32.toNatClampNeg 0) by decide) rfl ?_
  refine jx_iload_n E dX3_takeOff_6 1 rfl ?_
  refine jx_iconst (x := -1) E dX3_takeOff_7 (by decide) ?_
  obtain ⟨hg1, hF⟩ := jx_guard hF
  refine jx_iast (h := (h0 + 3)) (j := (Int32.toNatClampNeg x1)) E dX3_takeOff_8 (n_T3 hT0) (s_T3 hT0) hg1 rfl ?_
  obtain rfl := Option.some.inj hF
  exact jx_vret E dX3_takeOff_9 rfl
def f_X2_readClear (h1 : Nat) (v : jx_V) : Option (jx_V) := ((f_X2_nextToken v).bind (fun v1 => ((f_X2_takeLot h1 1 v1).bind (fun (r2, v2) => (if 0 ≤ (v2 53 6) then (some v2) else ((f_X3_takeOff h1 r2 v2).bind (fun v4 => (some v4))))))))
def rm_X2_readClear : Room := { frames := 3, cells := 0, slots := 0, locals := 65 }
set_option maxHeartbeats 4000000 in
set_option maxRecDepth 100000 in
theorem k_X2_readClear {l : Launch} {D : va_G} {cI cJ : ClassId} {ad : Nat → Nat} {A : Nat → Prop} {adK adV : Nat → Nat} (hI : jx_inj 67 ad A) (h1 : Nat) (hT1 : jx_T h1) (v : jx_V) (v' : jx_V) (hF : f_X2_readClear h1 v = some v') : jx_Cv l D vwCl 67 cI cJ ad shX A (ex_X adK adV A) yX2_readClear (Cond.code yX2_readClear cX2_readClear 3 (none) :: bigT) rm_X2_readClear [.ref (ad 53), .ref (ad h1)] v v' := by
  unfold f_X2_readClear at hF
  refine jx_enterv bigT RX2 cX2_readClear 3 (none) [(0, .ref (ad 53)), (1, .ref (ad h1))] hI (ex_X_ok adK adV A) (by decide +kernel) rfl (Nat.le_of_ble_eq_true rfl) rfl rfl ?_
  intro p e s m args below meth c E
  have iX2 : ∀ w ∈ u_ws RX2 TX2 7, w ∈ (Cond.code yX2_readClear cX2_readClear 3 (none) :: bigT) := fun w h => List.mem_cons_of_mem _ (uw_X2 w h)
  refine jx_aload_n E dX2_readClear_0 0 rfl ?_
  obtain ⟨v1, hc1, hF⟩ := jx_bind hF
  try dsimp only at hF
  refine jx_callVv (As := []) (st := []) (h := 53) E dX2_readClear_1 0 rfl (k_X2_nextToken hI  v v1 hc1) (gb_V (List.mem_cons_of_mem _ tw_122) (List.mem_cons_of_mem _ tw_123) (List.mem_cons_of_mem _ tw_124) (List.mem_cons_of_mem _ tw_100) tw_121) rfl rfl rfl dd_X2_nextToken rfl (Nat.le_of_ble_eq_true rfl) s_X53 rfl ⟨by decide, by decide⟩ ⟨Nat.le_refl 0, Nat.le_refl 0⟩ (Nat.le_of_ble_eq_true rfl) ?_
  refine jx_aload_n E dX2_readClear_4 0 rfl ?_
  refine jx_aload_n E dX2_readClear_5 1 rfl ?_
  refine jx_iconst (x := 1) E dX2_readClear_6 (by decide) ?_
  obtain ⟨⟨r2, v2⟩, hc2, hF⟩ := jx_bind hF
  try dsimp only at hF
  refine jx_callVi (As := [.ref (ad h1), .int 1]) (st := []) (h := 53) E dX2_readClear_7 2 rfl (k_X2_takeLot hI h1 hT1 1 v1 r2 v2 hc2) (gb_V (List.mem_cons_of_mem _ tw_130) (List.mem_cons_of_mem _ tw_131) (List.mem_cons_of_mem _ tw_132) (List.mem_cons_of_mem _ tw_100) tw_129) rfl rfl rfl dd_X2_takeLot rfl (Nat.le_of_ble_eq_true rfl) s_X53 rfl ⟨by decide, by decide⟩ ⟨Nat.le_refl 0, Nat.le_refl 0⟩ (Nat.le_of_ble_eq_true rfl) ?_
  refine jx_istore_n (lv' := [(2, .int r2), (0, .ref (ad 53)), (1, .ref (ad h1))]) E dX2_readClear_10 (by decide) rfl ?_
  refine jx_aload_n E dX2_readClear_11 1 rfl ?_
  refine jx_geti (C := RX2) (T := TX2) (M := 7) (k := 6) E dX2_readClear_12 (Nat.le_of_ble_eq_true rfl) s_X53 rfl iX2 (by decide) rfl (List.mem_cons_of_mem _ tw_116) rfl ?_
  refine jx_if_ge (tgt := 23) E dX2_readClear_15 (by decide) (fun hc3 => ?_) (fun hc3 => ?_)
  · rw [if_pos hc3] at hF
    obtain rfl := Option.some.inj hF
    exact jx_vret E dX2_readClear_23 rfl
  · rw [if_neg hc3] at hF
    refine jx_aload_n E dX2_readClear_18 2 rfl ?_
    refine jx_iload_n E dX2_readClear_19 0 rfl ?_
    obtain ⟨v4, hc4, hF⟩ := jx_bind hF
    try dsimp only at hF
    refine jx_callNv (As := [.int r2]) (st := []) (h := h1) E dX2_readClear_20 1 rfl (k_X3_takeOff hI h1 hT1 r2 v2 v4 hc4) (gb_N tw_145) rfl rfl rfl (ex_m38 (jx_ex E)) (List.mem_cons_of_mem _ tw_33) (List.mem_cons_of_mem _ tw_146) (List.mem_cons_of_mem _ tw_147) dd_X3_takeOff.2 rfl (n_T0 hT1) (s_T0 hT1) rfl ⟨by decide, by decide⟩ ⟨Nat.le_refl 0, Nat.le_refl 0⟩ (Nat.le_of_ble_eq_true rfl) ?_
    obtain rfl := Option.some.inj hF
    exact jx_vret E dX2_readClear_23 rfl
def f_X2_readItem (h1 : Nat) (v : jx_V) : Option (jx_V) := ((f_X2_kindOfWord v).bind (fun (r1, v1) => (if r1 < 0 then ((f_X2_isWord 11 v1).bind (fun (r3, v3) => (if r3 = 0 then ((f_X2_isWord 15 v3).bind (fun (r5, v5) => (if r5 = 0 then ((f_X2_isWord 16 v5).bind (fun (r7, v7) => (if r7 = 0 then ((f_X2_failHere v7).bind (fun v9 => (some v9))) else ((f_X2_readClear h1 v7).bind (fun v10 => (some v10)))))) else ((f_X2_readPrice h1 v5).bind (fun v11 => (some v11)))))) else (if 10 ≤ (v3 h1 5) then ((f_X2_isWord 15 v3).bind (fun (r13, v13) => (if r13 = 0 then ((f_X2_isWord 16 v13).bind (fun (r15, v15) => (if r15 = 0 then ((f_X2_failHere v15).bind (fun v17 => (some v17))) else ((f_X2_readClear h1 v15).bind (fun v18 => (some v18)))))) else ((f_X2_readPrice h1 v13).bind (fun v19 => (some v19)))))) else ((f_X2_readWindow h1 v3).bind (fun v20 => (some v20))))))) else ((f_X2_readThing h1 r1 v1).bind (fun v21 => (some v21))))))
def rm_X2_readItem : Room := { frames := 7, cells := 0, slots := 0, locals := 154 }
set_option maxHeartbeats 4000000 in
set_option maxRecDepth 100000 in
theorem k_X2_readItem {l : Launch} {D : va_G} {cI cJ : ClassId} {ad : Nat → Nat} {A : Nat → Prop} {adK adV : Nat → Nat} (hI : jx_inj 67 ad A) (h1 : Nat) (hT1 : jx_T h1) (v : jx_V) (v' : jx_V) (hF : f_X2_readItem h1 v = some v') : jx_Cv l D vwCl 67 cI cJ ad shX A (ex_X adK adV A) yX2_readItem (Cond.code yX2_readItem cX2_readItem 3 (none) :: bigT) rm_X2_readItem [.ref (ad 53), .ref (ad h1)] v v' := by
  unfold f_X2_readItem at hF
  refine jx_enterv bigT RX2 cX2_readItem 3 (none) [(0, .ref (ad 53)), (1, .ref (ad h1))] hI (ex_X_ok adK adV A) (by decide +kernel) rfl (Nat.le_of_ble_eq_true rfl) rfl rfl ?_
  intro p e s m args below meth c E
  have iX3 : ∀ w ∈ u_ws RX3 TX3 8, w ∈ (Cond.code yX2_readItem cX2_readItem 3 (none) :: bigT) := fun w h => List.mem_cons_of_mem _ (uw_X3 w h)
  refine jx_aload_n E dX2_readItem_0 0 rfl ?_
  obtain ⟨⟨r1, v1⟩, hc1, hF⟩ := jx_bind hF
  try dsimp only at hF
  refine jx_callVi (As := []) (st := []) (h := 53) E dX2_readItem_1 0 rfl (k_X2_kindOfWord hI  v r1 v1 hc1) (gb_V (List.mem_cons_of_mem _ tw_149) (List.mem_cons_of_mem _ tw_150) (List.mem_cons_of_mem _ tw_151) (List.mem_cons_of_mem _ tw_100) tw_148) rfl rfl rfl dd_X2_kindOfWord rfl (Nat.le_of_ble_eq_true rfl) s_X53 rfl ⟨by decide, by decide⟩ ⟨Nat.le_refl 0, Nat.le_refl 0⟩ (Nat.le_of_ble_eq_true rfl) ?_
  refine jx_istore_n (lv' := [(2, .int r1), (0, .ref (ad 53)), (1, .ref (ad h1))]) E dX2_readItem_4 (by decide) rfl ?_
  refine jx_iload_n E dX2_readItem_5 0 rfl ?_
  refine jx_if_lt (tgt := 18) E dX2_readItem_6 (by decide) (fun hc2 => ?_) (fun hc2 => ?_)
  · rw [if_pos hc2] at hF
    refine jx_aload_n E dX2_readItem_18 1 rfl ?_
    refine jx_ldcS (q := adK 11) E dX2_readItem_19 ((jx_ex E).2.2.1 11 (by decide)) ?_
    obtain ⟨⟨r3, v3⟩, hc3, hF⟩ := jx_bind hF
    try dsimp only at hF
    refine jx_callVi (As := [.ref (adK 11)]) (st := []) (h := 53) E dX2_readItem_21 1 rfl (k_X2_isWord hI 11 (by decide) v1 r3 v3 hc3) (gb_V (List.mem_cons_of_mem _ tw_113) (List.mem_cons_of_mem _ tw_114) (List.mem_cons_of_mem _ tw_115) (List.mem_cons_of_mem _ tw_100) tw_112) rfl rfl rfl dd_X2_isWord rfl (Nat.le_of_ble_eq_true rfl) s_X53 rfl ⟨by decide, by decide⟩ ⟨Nat.le_refl 0, Nat.le_refl 0⟩ (Nat.le_of_ble_eq_true rfl) ?_
    refine jx_if_eq (tgt := 44) E dX2_readItem_24 (by decide) (fun hc4 => ?_) (fun hc4 => ?_)
    · rw [if_pos hc4] at hF
      refine jx_aload_n E dX2_readItem_44 1 rfl ?_
      refine jx_ldcS (q := adK 15) E dX2_readItem_45 ((jx_ex E).2.2.1 15 (by decide)) ?_
      obtain ⟨⟨r5, v5⟩, hc5, hF⟩ := jx_bind hF
      try dsimp only at hF
      refine jx_callVi (As := [.ref (adK 15)]) (st := []) (h := 53) E dX2_readItem_47 1 rfl (k_X2_isWord hI 15 (by decide) v3 r5 v5 hc5) (gb_V (List.mem_cons_of_mem _ tw_113) (List.mem_cons_of_mem _ tw_114) (List.mem_cons_of_mem _ tw_115) (List.mem_cons_of_mem _ tw_100) tw_112) rfl rfl rfl dd_X2_isWord rfl (Nat.le_of_ble_eq_true rfl) s_X53 rfl ⟨by decide, by decide⟩ ⟨Nat.le_refl 0, Nat.le_refl 0⟩ (Nat.le_of_ble_eq_true rfl) ?_
      refine jx_if_eq (tgt := 61) E dX2_readItem_50 (by decide) (fun hc6 => ?_) (fun hc6 => ?_)
      · rw [if_pos hc6] at hF
        refine jx_aload_n E dX2_readItem_61 1 rfl ?_
        refine jx_ldcS (q := adK 16) E dX2_readItem_62 ((jx_ex E).2.2.1 16 (by decide)) ?_
        obtain ⟨⟨r7, v7⟩, hc7, hF⟩ := jx_bind hF
        try dsimp only at hF
        refine jx_callVi (As := [.ref (adK 16)]) (st := []) (h := 53) E dX2_readItem_64 1 rfl (k_X2_isWord hI 16 (by decide) v5 r7 v7 hc7) (gb_V (List.mem_cons_of_mem _ tw_113) (List.mem_cons_of_mem _ tw_114) (List.mem_cons_of_mem _ tw_115) (List.mem_cons_of_mem _ tw_100) tw_112) rfl rfl rfl dd_X2_isWord rfl (Nat.le_of_ble_eq_true rfl) s_X53 rfl ⟨by decide, by decide⟩ ⟨Nat.le_refl 0, Nat.le_refl 0⟩ (Nat.le_of_ble_eq_true rfl) ?_
        refine jx_if_eq (tgt := 78) E dX2_readItem_67 (by decide) (fun hc8 => ?_) (fun hc8 => ?_)
        · rw [if_pos hc8] at hF
          refine jx_aload_n E dX2_readItem_78 1 rfl ?_
          obtain ⟨v9, hc9, hF⟩ := jx_bind hF
          try dsimp only at hF
          refine jx_callVv (As := []) (st := []) (h := 53) E dX2_readItem_79 0 rfl (k_X2_failHere hI  v7 v9 hc9) (gb_V (List.mem_cons_of_mem _ tw_118) (List.mem_cons_of_mem _ tw_119) (List.mem_cons_of_mem _ tw_120) (List.mem_cons_of_mem _ tw_100) tw_117) rfl rfl rfl dd_X2_failHere rfl (Nat.le_of_ble_eq_true rfl) s_X53 rfl ⟨by decide, by decide⟩ ⟨Nat.le_refl 0, Nat.le_refl 0⟩ (Nat.le_of_ble_eq_true rfl) ?_
          obtain rfl := Option.some.inj hF
          exact jx_vret E dX2_readItem_82 rfl
        · rw [if_neg hc8] at hF
          refine jx_aload_n E dX2_readItem_70 1 rfl ?_
          refine jx_aload_n E dX2_readItem_71 2 rfl ?_
          obtain ⟨v10, hc10, hF⟩ := jx_bind hF
          try dsimp only at hF
          refine jx_callVv (As := [.ref (ad h1)]) (st := []) (h := 53) E dX2_readItem_72 1 rfl (k_X2_readClear hI h1 hT1 v7 v10 hc10) (gb_V (List.mem_cons_of_mem _ tw_153) (List.mem_cons_of_mem _ tw_154) (List.mem_cons_of_mem _ tw_155) (List.mem_cons_of_mem _ tw_100) tw_152) rfl rfl rfl dd_X2_readClear rfl (Nat.le_of_ble_eq_true rfl) s_X53 rfl ⟨by decide, by decide⟩ ⟨Nat.le_refl 0, Nat.le_refl 0⟩ (Nat.le_of_ble_eq_true rfl) ?_
          refine jx_goto (tgt := 82) E dX2_readItem_75 (by decide) ?_
          obtain rfl := Option.some.inj hF
          exact jx_vret E dX2_readItem_82 rfl
      · rw [if_neg hc6] at hF
        refine jx_aload_n E dX2_readItem_53 1 rfl ?_
        refine jx_aload_n E dX2_readItem_54 2 rfl ?_
        obtain ⟨v11, hc11, hF⟩ := jx_bind hF
        try dsimp only at hF
        refine jx_callVv (As := [.ref (ad h1)]) (st := []) (h := 53) E dX2_readItem_55 1 rfl (k_X2_readPrice hI h1 hT1 v5 v11 hc11) (gb_V (List.mem_cons_of_mem _ tw_157) (List.mem_cons_of_mem _ tw_158) (List.mem_cons_of_mem _ tw_159) (List.mem_cons_of_mem _ tw_100) tw_156) rfl rfl rfl dd_X2_readPrice rfl (Nat.le_of_ble_eq_true rfl) s_X53 rfl ⟨by decide, by decide⟩ ⟨Nat.le_refl 0, Nat.le_refl 0⟩ (Nat.le_of_ble_eq_true rfl) ?_
        refine jx_goto (tgt := 82) E dX2_readItem_58 (by decide) ?_
        obtain rfl := Option.some.inj hF
        exact jx_vret E dX2_readItem_82 rfl
    · rw [if_neg hc4] at hF
      refine jx_aload_n E dX2_readItem_27 2 rfl ?_
      refine jx_getiN (C := RX3) (T := TX3) (M := 8) (k := 5) E dX2_readItem_28 (n_T0 hT1) (s_T0 hT1) rfl iX3 (by decide) rfl (ex_f9 (jx_ex E)) rfl ?_
      refine jx_bipush (x := 10) E dX2_readItem_31 (by decide) ?_
      refine jx_icmp_ge (tgt := 44) E dX2_readItem_33 (by decide) (fun hc12 => ?_) (fun hc12 => ?_)
      · rw [if_pos hc12] at hF
        refine jx_aload_n E dX2_readItem_44 1 rfl ?_
        refine jx_ldcS (q := adK 15) E dX2_readItem_45 ((jx_ex E).2.2.1 15 (by decide)) ?_
        obtain ⟨⟨r13, v13⟩, hc13, hF⟩ := jx_bind hF
        try dsimp only at hF
        refine jx_callVi (As := [.ref (adK 15)]) (st := []) (h := 53) E dX2_readItem_47 1 rfl (k_X2_isWord hI 15 (by decide) v3 r13 v13 hc13) (gb_V (List.mem_cons_of_mem _ tw_113) (List.mem_cons_of_mem _ tw_114) (List.mem_cons_of_mem _ tw_115) (List.mem_cons_of_mem _ tw_100) tw_112) rfl rfl rfl dd_X2_isWord rfl (Nat.le_of_ble_eq_true rfl) s_X53 rfl ⟨by decide, by decide⟩ ⟨Nat.le_refl 0, Nat.le_refl 0⟩ (Nat.le_of_ble_eq_true rfl) ?_
        refine jx_if_eq (tgt := 61) E dX2_readItem_50 (by decide) (fun hc14 => ?_) (fun hc14 => ?_)
        · rw [if_pos hc14] at hF
          refine jx_aload_n E dX2_readItem_61 1 rfl ?_
          refine jx_ldcS (q := adK 16) E dX2_readItem_62 ((jx_ex E).2.2.1 16 (by decide)) ?_
          obtain ⟨⟨r15, v15⟩, hc15, hF⟩ := jx_bind hF
          try dsimp only at hF
          refine jx_callVi (As := [.ref (adK 16)]) (st := []) (h := 53) E dX2_readItem_64 1 rfl (k_X2_isWord hI 16 (by decide) v13 r15 v15 hc15) (gb_V (List.mem_cons_of_mem _ tw_113) (List.mem_cons_of_mem _ tw_114) (List.mem_cons_of_mem _ tw_115) (List.mem_cons_of_mem _ tw_100) tw_112) rfl rfl rfl dd_X2_isWord rfl (Nat.le_of_ble_eq_true rfl) s_X53 rfl ⟨by decide, by decide⟩ ⟨Nat.le_refl 0, Nat.le_refl 0⟩ (Nat.le_of_ble_eq_true rfl) ?_
          refine jx_if_eq (tgt := 78) E dX2_readItem_67 (by decide) (fun hc16 => ?_) (fun hc16 => ?_)
          · rw [if_pos hc16] at hF
            refine jx_aload_n E dX2_readItem_78 1 rfl ?_
            obtain ⟨v17, hc17, hF⟩ := jx_bind hF
            try dsimp only at hF
            refine jx_callVv (As := []) (st := []) (h := 53) E dX2_readItem_79 0 rfl (k_X2_failHere hI  v15 v17 hc17) (gb_V (List.mem_cons_of_mem _ tw_118) (List.mem_cons_of_mem _ tw_119) (List.mem_cons_of_mem _ tw_120) (List.mem_cons_of_mem _ tw_100) tw_117) rfl rfl rfl dd_X2_failHere rfl (Nat.le_of_ble_eq_true rfl) s_X53 rfl ⟨by decide, by decide⟩ ⟨Nat.le_refl 0, Nat.le_refl 0⟩ (Nat.le_of_ble_eq_true rfl) ?_
            obtain rfl := Option.some.inj hF
            exact jx_vret E dX2_readItem_82 rfl
          · rw [if_neg hc16] at hF
            refine jx_aload_n E dX2_readItem_70 1 rfl ?_
            refine jx_aload_n E dX2_readItem_71 2 rfl ?_
            obtain ⟨v18, hc18, hF⟩ := jx_bind hF
            try dsimp only at hF
            refine jx_callVv (As := [.ref (ad h1)]) (st := []) (h := 53) E dX2_readItem_72 1 rfl (k_X2_readClear hI h1 hT1 v15 v18 hc18) (gb_V (List.mem_cons_of_mem _ tw_153) (List.mem_cons_of_mem _ tw_154) (List.mem_cons_of_mem _ tw_155) (List.mem_cons_of_mem _ tw_100) tw_152) rfl rfl rfl dd_X2_readClear rfl (Nat.le_of_ble_eq_true rfl) s_X53 rfl ⟨by decide, by decide⟩ ⟨Nat.le_refl 0, Nat.le_refl 0⟩ (Nat.le_of_ble_eq_true rfl) ?_
            refine jx_goto (tgt := 82) E dX2_readItem_75 (by decide) ?_
            obtain rfl := Option.some.inj hF
            exact jx_vret E dX2_readItem_82 rfl
        · rw [if_neg hc14] at hF
          refine jx_aload_n E dX2_readItem_53 1 rfl ?_
          refine jx_aload_n E dX2_readItem_54 2 rfl ?_
          obtain ⟨v19, hc19, hF⟩ := jx_bind hF
          try dsimp only at hF
          refine jx_callVv (As := [.ref (ad h1)]) (st := []) (h := 53) E dX2_readItem_55 1 rfl (k_X2_readPrice hI h1 hT1 v13 v19 hc19) (gb_V (List.mem_cons_of_mem _ tw_157) (List.mem_cons_of_mem _ tw_158) (List.mem_cons_of_mem _ tw_159) (List.mem_cons_of_mem _ tw_100) tw_156) rfl rfl rfl dd_X2_readPrice rfl (Nat.le_of_ble_eq_true rfl) s_X53 rfl ⟨by decide, by decide⟩ ⟨Nat.le_refl 0, Nat.le_refl 0⟩ (Nat.le_of_ble_eq_true rfl) ?_
          refine jx_goto (tgt := 82) E dX2_readItem_58 (by decide) ?_
          obtain rfl := Option.some.inj hF
          exact jx_vret E dX2_readItem_82 rfl
      · rw [if_neg hc12] at hF
        refine jx_aload_n E dX2_readItem_36 1 rfl ?_
        refine jx_aload_n E dX2_readItem_37 2 rfl ?_
        obtain ⟨v20, hc20, hF⟩ := jx_bind hF
        try dsimp only at hF
        refine jx_callVv (As := [.ref (ad h1)]) (st := []) (h := 53) E dX2_readItem_38 1 rfl (k_X2_readWindow hI h1 hT1 v3 v20 hc20) (gb_V (List.mem_cons_of_mem _ tw_161) (List.mem_cons_of_mem _ tw_162) (List.mem_cons_of_mem _ tw_163) (List.mem_cons_of_mem _ tw_100) tw_160) rfl rfl rfl dd_X2_readWindow rfl (Nat.le_of_ble_eq_true rfl) s_X53 rfl ⟨by decide, by decide⟩ ⟨Nat.le_refl 0, Nat.le_refl 0⟩ (Nat.le_of_ble_eq_true rfl) ?_
        refine jx_goto (tgt := 82) E dX2_readItem_41 (by decide) ?_
        obtain rfl := Option.some.inj hF
        exact jx_vret E dX2_readItem_82 rfl
  · rw [if_neg hc2] at hF
    refine jx_aload_n E dX2_readItem_9 1 rfl ?_
    refine jx_aload_n E dX2_readItem_10 2 rfl ?_
    refine jx_iload_n E dX2_readItem_11 0 rfl ?_
    obtain ⟨v21, hc21, hF⟩ := jx_bind hF
    try dsimp only at hF
    refine jx_callVv (As := [.ref (ad h1), .int r1]) (st := []) (h := 53) E dX2_readItem_12 2 rfl (k_X2_readThing hI h1 hT1 r1 v1 v21 hc21) (gb_V (List.mem_cons_of_mem _ tw_165) (List.mem_cons_of_mem _ tw_166) (List.mem_cons_of_mem _ tw_167) (List.mem_cons_of_mem _ tw_100) tw_164) rfl rfl rfl dd_X2_readThing rfl (Nat.le_of_ble_eq_true rfl) s_X53 rfl ⟨by decide, by decide⟩ ⟨Nat.le_refl 0, Nat.le_refl 0⟩ (Nat.le_of_ble_eq_true rfl) ?_
    refine jx_goto (tgt := 82) E dX2_readItem_15 (by decide) ?_
    obtain rfl := Option.some.inj hF
    exact jx_vret E dX2_readItem_82 rfl
def f_X2_readText_L (h1 : Nat) : Nat → Int32 → jx_V → Option (Int32 × jx_V)
  | 0, _, _ => none
  | n + 1, x2, v => (if 0 ≤ (v 53 6) then (if (v 53 2) = 0 then (some (x2, v)) else ((f_X2_failHere v).bind (fun v5 => (some (x2, v5))))) else (if (v 53 2) = 3 then (if 120 ≤ x2 then (if (v 53 2) = 0 then (some (x2, v)) else ((f_X2_failHere v).bind (fun v11 => (some (x2, v11))))) else ((f_X2_nextToken v).bind (fun v12 => ((f_X2_readItem h1 v12).bind (fun v13 => (f_X2_readText_L h1 n (x2 + 1) v13)))))) else (if (v 53 2) = 0 then (some (x2, v)) else ((f_X2_failHere v).bind (fun v8 => (some (x2, v8)))))))
def f_X2_readText (h1 : Nat) (v : jx_V) : Option (Int32 × jx_V) := ((f_X2_nextToken (jx_up (jx_up v 53 6 (-1)) 53 4 0)).bind (fun v1 => ((f_X2_readItem h1 v1).bind (fun v2 => (f_X2_readText_L h1 100000 1 v2)))))
def rm_X2_readText : Room := { frames := 8, cells := 0, slots := 0, locals := 176 }
set_option maxHeartbeats 4000000 in
set_option maxRecDepth 100000 in
theorem k_X2_readText {l : Launch} {D : va_G} {cI cJ : ClassId} {ad : Nat → Nat} {A : Nat → Prop} {adK adV : Nat → Nat} (hI : jx_inj 67 ad A) (h1 : Nat) (hT1 : jx_T h1) (v : jx_V) (r : Int32) (v' : jx_V) (hF : f_X2_readText h1 v = some (r, v')) : jx_Ci l D vwCl 67 cI cJ ad shX A (ex_X adK adV A) yX2_readText (Cond.code yX2_readText cX2_readText 3 (some .int) :: bigT) rm_X2_readText [.ref (ad 53), .ref (ad h1)] v r v' := by
  unfold f_X2_readText at hF
  refine jx_enteri bigT RX2 cX2_readText 3 (some .int) [(0, .ref (ad 53)), (1, .ref (ad h1))] hI (ex_X_ok adK adV A) (by decide +kernel) rfl (Nat.le_of_ble_eq_true rfl) rfl rfl ?_
  intro p e s m args below meth c E
  have iX2 : ∀ w ∈ u_ws RX2 TX2 7, w ∈ (Cond.code yX2_readText cX2_readText 3 (some .int) :: bigT) := fun w h => List.mem_cons_of_mem _ (uw_X2 w h)
  have key : ∀ n : Nat, (∀ (x2 : Int32) (v : jx_V), f_X2_readText_L h1 n  x2 v = some (r, v') → jx_J p l e rm_X2_readText s m args below meth c D vwCl 67 cI cJ ad shX A 0 0 3 (MQ below (va_Qi (fun (r1 : Int32) (_ : Unit) => r1 = r) (fun _ t => va_P D vwCl (jx_ws 67 cI cJ ad shX v') t.heap) A) args s 0 0 A) v 21 [(0, .ref (ad 53)), (1, .ref (ad h1)), (2, .int x2)] []) := by
    intro n
    induction n with
    | zero =>
      exact (fun _ _ h => by cases h)
    | succ n ih =>
      intro x2 v hF
      rw [f_X2_readText_L] at hF
      refine jx_aload_n E dX2_readText_21 0 rfl ?_
      refine jx_geti (C := RX2) (T := TX2) (M := 7) (k := 6) E dX2_readText_22 (Nat.le_of_ble_eq_true rfl) s_X53 rfl iX2 (by decide) rfl (List.mem_cons_of_mem _ tw_116) rfl ?_
      refine jx_if_ge (tgt := 57) E dX2_readText_25 (by decide) (fun hc3 => ?_) (fun hc3 => ?_)
      · rw [if_pos hc3] at hF
        refine jx_aload_n E dX2_readText_57 0 rfl ?_
        refine jx_geti (C := RX2) (T := TX2) (M := 7) (k := 2) E dX2_readText_58 (Nat.le_of_ble_eq_true rfl) s_X53 rfl iX2 (by decide) rfl (List.mem_cons_of_mem _ tw_101) rfl ?_
        refine jx_if_eq (tgt := 68) E dX2_readText_61 (by decide) (fun hc4 => ?_) (fun hc4 => ?_)
        · rw [if_pos hc4] at hF
          refine jx_iload_n E dX2_readText_68 2 rfl ?_
          obtain ⟨rfl, rfl⟩ := jx_out hF
          exact jx_iret E dX2_readText_69 rfl
        · rw [if_neg hc4] at hF
          refine jx_aload_n E dX2_readText_64 0 rfl ?_
          obtain ⟨v5, hc5, hF⟩ := jx_bind hF
          try dsimp only at hF
          refine jx_callVv (As := []) (st := []) (h := 53) E dX2_readText_65 0 rfl (k_X2_failHere hI  v v5 hc5) (gb_V (List.mem_cons_of_mem _ tw_118) (List.mem_cons_of_mem _ tw_119) (List.mem_cons_of_mem _ tw_120) (List.mem_cons_of_mem _ tw_100) tw_117) rfl rfl rfl dd_X2_failHere rfl (Nat.le_of_ble_eq_true rfl) s_X53 rfl ⟨by decide, by decide⟩ ⟨Nat.le_refl 0, Nat.le_refl 0⟩ (Nat.le_of_ble_eq_true rfl) ?_
          refine jx_iload_n E dX2_readText_68 2 rfl ?_
          obtain ⟨rfl, rfl⟩ := jx_out hF
          exact jx_iret E dX2_readText_69 rfl
      · rw [if_neg hc3] at hF
        refine jx_aload_n E dX2_readText_28 0 rfl ?_
        refine jx_geti (C := RX2) (T := TX2) (M := 7) (k := 2) E dX2_readText_29 (Nat.le_of_ble_eq_true rfl) s_X53 rfl iX2 (by decide) rfl (List.mem_cons_of_mem _ tw_101) rfl ?_
        refine jx_iconst (x := 3) E dX2_readText_32 (by decide) ?_
        refine jx_icmp_ne (tgt := 57) E dX2_readText_33 (by decide) (fun hc6 => ?_) (fun hc6 => ?_)
        · rw [if_neg hc6] at hF
          refine jx_aload_n E dX2_readText_57 0 rfl ?_
          refine jx_geti (C := RX2) (T := TX2) (M := 7) (k := 2) E dX2_readText_58 (Nat.le_of_ble_eq_true rfl) s_X53 rfl iX2 (by decide) rfl (List.mem_cons_of_mem _ tw_101) rfl ?_
          refine jx_if_eq (tgt := 68) E dX2_readText_61 (by decide) (fun hc7 => ?_) (fun hc7 => ?_)
          · rw [if_pos hc7] at hF
            refine jx_iload_n E dX2_readText_68 2 rfl ?_
            obtain ⟨rfl, rfl⟩ := jx_out hF
            exact jx_iret E dX2_readText_69 rfl
          · rw [if_neg hc7] at hF
            refine jx_aload_n E dX2_readText_64 0 rfl ?_
            obtain ⟨v8, hc8, hF⟩ := jx_bind hF
            try dsimp only at hF
            refine jx_callVv (As := []) (st := []) (h := 53) E dX2_readText_65 0 rfl (k_X2_failHere hI  v v8 hc8) (gb_V (List.mem_cons_of_mem _ tw_118) (List.mem_cons_of_mem _ tw_119) (List.mem_cons_of_mem _ tw_120) (List.mem_cons_of_mem _ tw_100) tw_117) rfl rfl rfl dd_X2_failHere rfl (Nat.le_of_ble_eq_true rfl) s_X53 rfl ⟨by decide, by decide⟩ ⟨Nat.le_refl 0, Nat.le_refl 0⟩ (Nat.le_of_ble_eq_true rfl) ?_
            refine jx_iload_n E dX2_readText_68 2 rfl ?_
            obtain ⟨rfl, rfl⟩ := jx_out hF
            exact jx_iret E dX2_readText_69 rfl
        · rw [if_pos hc6] at hF
          refine jx_iload_n E dX2_readText_36 2 rfl ?_
          refine jx_bipush (x := 120) E dX2_readText_37 (by decide) ?_
          refine jx_icmp_ge (tgt := 57) E dX2_readText_39 (by decide) (fun hc9 => ?_) (fun hc9 => ?_)
          · rw [if_pos hc9] at hF
            refine jx_aload_n E dX2_readText_57 0 rfl ?_
            refine jx_geti (C := RX2) (T := TX2) (M := 7) (k := 2) E dX2_readText_58 (Nat.le_of_ble_eq_true rfl) s_X53 rfl iX2 (by decide) rfl (List.mem_cons_of_mem _ tw_101) rfl ?_
            refine jx_if_eq (tgt := 68) E dX2_readText_61 (by decide) (fun hc10 => ?_) (fun hc10 => ?_)
            · rw [if_pos hc10] at hF
              refine jx_iload_n E dX2_readText_68 2 rfl ?_
              obtain ⟨rfl, rfl⟩ := jx_out hF
              exact jx_iret E dX2_readText_69 rfl
            · rw [if_neg hc10] at hF
              refine jx_aload_n E dX2_readText_64 0 rfl ?_
              obtain ⟨v11, hc11, hF⟩ := jx_bind hF
              try dsimp only at hF
              refine jx_callVv (As := []) (st := []) (h := 53) E dX2_readText_65 0 rfl (k_X2_failHere hI  v v11 hc11) (gb_V (List.mem_cons_of_mem _ tw_118) (List.mem_cons_of_mem _ tw_119) (List.mem_cons_of_mem _ tw_120) (List.mem_cons_of_mem _ tw_100) tw_117) rfl rfl rfl dd_X2_failHere rfl (Nat.le_of_ble_eq_true rfl) s_X53 rfl ⟨by decide, by decide⟩ ⟨Nat.le_refl 0, Nat.le_refl 0⟩ (Nat.le_of_ble_eq_true rfl) ?_
              refine jx_iload_n E dX2_readText_68 2 rfl ?_
              obtain ⟨rfl, rfl⟩ := jx_out hF
              exact jx_iret E dX2_readText_69 rfl
          · rw [if_neg hc9] at hF
            refine jx_aload_n E dX2_readText_42 0 rfl ?_
            obtain ⟨v12, hc12, hF⟩ := jx_bind hF
            try dsimp only at hF
            refine jx_callVv (As := []) (st := []) (h := 53) E dX2_readText_43 0 rfl (k_X2_nextToken hI  v v12 hc12) (gb_V (List.mem_cons_of_mem _ tw_122) (List.mem_cons_of_mem _ tw_123) (List.mem_cons_of_mem _ tw_124) (List.mem_cons_of_mem _ tw_100) tw_121) rfl rfl rfl dd_X2_nextToken rfl (Nat.le_of_ble_eq_true rfl) s_X53 rfl ⟨by decide, by decide⟩ ⟨Nat.le_refl 0, Nat.le_refl 0⟩ (Nat.le_of_ble_eq_true rfl) ?_
            refine jx_aload_n E dX2_readText_46 0 rfl ?_
            refine jx_aload_n E dX2_readText_47 1 rfl ?_
            obtain ⟨v13, hc13, hF⟩ := jx_bind hF
            try dsimp only at hF
            refine jx_callVv (As := [.ref (ad h1)]) (st := []) (h := 53) E dX2_readText_48 1 rfl (k_X2_readItem hI h1 hT1 v12 v13 hc13) (gb_V (List.mem_cons_of_mem _ tw_169) (List.mem_cons_of_mem _ tw_170) (List.mem_cons_of_mem _ tw_171) (List.mem_cons_of_mem _ tw_100) tw_168) rfl rfl rfl dd_X2_readItem rfl (Nat.le_of_ble_eq_true rfl) s_X53 rfl ⟨by decide, by decide⟩ ⟨Nat.le_refl 0, Nat.le_refl 0⟩ (Nat.le_of_ble_eq_true rfl) ?_
            refine jx_iinc (y := (x2 + 1)) (lv' := [(2, .int (x2 + 1)), (0, .ref (ad 53)), (1, .ref (ad h1))]) E dX2_readText_51 2 rfl rfl (by decide) rfl ?_
            refine jx_goto (tgt := 21) E dX2_readText_54 (by decide) ?_
            refine jx_sub [1, 2, 0] rfl ?_
            exact ih (x2 + 1) v13 hF
  refine jx_aload_n E dX2_readText_0 0 rfl ?_
  refine jx_iconst (x := -1) E dX2_readText_1 (by decide) ?_
  refine jx_puti (C := RX2) (T := TX2) (M := 7) (k := 6) (ty := .int) E tyX2 dX2_readText_2 (Nat.le_of_ble_eq_true rfl) s_X53 rfl iX2 (by decide) rfl (List.mem_cons_of_mem _ tw_116) tyX2_ok nmX2 rfl (by decide +kernel) rfl rfl rfl ?_
  refine jx_aload_n E dX2_readText_5 0 rfl ?_
  refine jx_iconst (x := 0) E dX2_readText_6 (by decide) ?_
  refine jx_puti (C := RX2) (T := TX2) (M := 7) (k := 4) (ty := .int) E tyX2 dX2_readText_7 (Nat.le_of_ble_eq_true rfl) s_X53 rfl iX2 (by decide) rfl (List.mem_cons_of_mem _ tw_94) tyX2_ok nmX2 rfl (by decide +kernel) rfl rfl rfl ?_
  refine jx_aload_n E dX2_readText_10 0 rfl ?_
  obtain ⟨v1, hc1, hF⟩ := jx_bind hF
  try dsimp only at hF
  refine jx_callVv (As := []) (st := []) (h := 53) E dX2_readText_11 0 rfl (k_X2_nextToken hI  (jx_up (jx_up v 53 6 (-1)) 53 4 0) v1 hc1) (gb_V (List.mem_cons_of_mem _ tw_122) (List.mem_cons_of_mem _ tw_123) (List.mem_cons_of_mem _ tw_124) (List.mem_cons_of_mem _ tw_100) tw_121) rfl rfl rfl dd_X2_nextToken rfl (Nat.le_of_ble_eq_true rfl) s_X53 rfl ⟨by decide, by decide⟩ ⟨Nat.le_refl 0, Nat.le_refl 0⟩ (Nat.le_of_ble_eq_true rfl) ?_
  refine jx_aload_n E dX2_readText_14 0 rfl ?_
  refine jx_aload_n E dX2_readText_15 1 rfl ?_
  obtain ⟨v2, hc2, hF⟩ := jx_bind hF
  try dsimp only at hF
  refine jx_callVv (As := [.ref (ad h1)]) (st := []) (h := 53) E dX2_readText_16 1 rfl (k_X2_readItem hI h1 hT1 v1 v2 hc2) (gb_V (List.mem_cons_of_mem _ tw_169) (List.mem_cons_of_mem _ tw_170) (List.mem_cons_of_mem _ tw_171) (List.mem_cons_of_mem _ tw_100) tw_168) rfl rfl rfl dd_X2_readItem rfl (Nat.le_of_ble_eq_true rfl) s_X53 rfl ⟨by decide, by decide⟩ ⟨Nat.le_refl 0, Nat.le_refl 0⟩ (Nat.le_of_ble_eq_true rfl) ?_
  refine jx_iconst (x := 1) E dX2_readText_19 (by decide) ?_
  refine jx_istore_n (lv' := [(2, .int 1), (0, .ref (ad 53)), (1, .ref (ad h1))]) E dX2_readText_20 (by decide) rfl ?_
  refine jx_sub [1, 2, 0] rfl ?_
  exact (key 100000) 1 v2 hF
def f_X3_become_L (h0 : Nat) (h1 : Nat) : Nat → Nat → Int32 → jx_V → Option (jx_V)
  | 0, _, _, _ => none
  | n + 1, tag, x2, v => (if tag = 0 then (if 4 ≤ x2 then (f_X3_become_L h0 h1 n 1 0 v) else (if (x2 < 0 ∨ 4 ≤ (x2).toNatClampNeg) then none else (if (x2 < 0 ∨ 4 ≤ (x2).toNatClampNeg) then none else (f_X3_become_L h0 h1 n 0 (x2 + 1) (jx_set v (h0 + 3 + (x2).toNatClampNeg) (va_cpy (v (h1 + 3 + (x2).toNatClampNeg)) (v (h0 + 3 + (x2).toNatClampNeg)) (Int32.toNatClampNeg 0) (Int32.toNatClampNeg 0) (Int32.toNatClampNeg 25))))))) else (if tag = 1 then (if 6 ≤ x2 then (some (jx_up (jx_up (jx_up (jx_set (jx_set (jx_set v (h0 + 13) (va_cpy (v (h1 + 13)) (v (h0 + 13)) (Int32.toNatClampNeg 0) (Int32.toNatClampNeg 0) (Int32.toNatClampNeg 4))) (h0 + 14) (va_cpy ((jx_set v (h0 + 13) (va_cpy (v (h1 + 13)) (v (h0 + 13)) (Int32.toNatClampNeg 0) (Int32.toNatClampNeg 0) (Int32.toNatClampNeg 4))) (h1 + 14)) ((jx_set v (h0 + 13) (va_cpy (v (h1 + 13)) (v (h0 + 13)) (Int32.toNatClampNeg 0) (Int32.toNatClampNeg 0) (Int32.toNatClampNeg 4))) (h0 + 14)) (Int32.toNatClampNeg 0) (Int32.toNatClampNeg 0) (Int32.toNatClampNeg 4))) (h0 + 15) (va_cpy ((jx_set (jx_set v (h0 + 13) (va_cpy (v (h1 + 13)) (v (h0 + 13)) (Int32.toNatClampNeg 0) (Int32.toNatClampNeg 0) (Int32.toNatClampNeg 4))) (h0 + 14) (va_cpy ((jx_set v (h0 + 13) (va_cpy (v (h1 + 13)) (v (h0 + 13)) (Int32.toNatClampNeg 0) (Int32.toNatClampNeg 0) (Int32.toNatClampNeg 4))) (h1 + 14)) ((jx_set v (h0 + 13) (va_cpy (v (h1 + 13)) (v (h0 + 13)) (Int32.toNatClampNeg 0) (Int32.toNatClampNeg 0) (Int32.toNatClampNeg 4))) (h0 + 14)) (Int32.toNatClampNeg 0) (Int32.toNatClampNeg 0) (Int32.toNatClampNeg 4))) (h1 + 15)) ((jx_set (jx_set v (h0 + 13) (va_cpy (v (h1 + 13)) (v (h0 + 13)) (Int32.toNatClampNeg 0) (Int32.toNatClampNeg 0) (Int32.toNatClampNeg 4))) (h0 + 14) (va_cpy ((jx_set v (h0 + 13) (va_cpy (v (h1 + 13)) (v (h0 + 13)) (Int32.toNatClampNeg 0) (Int32.toNatClampNeg 0) (Int32.toNatClampNeg 4))) (h1 + 14)) ((jx_set v (h0 + 13) (va_cpy (v (h1 + 13)) (v (h0 + 13)) (Int32.toNatClampNeg 0) (Int32.toNatClampNeg 0) (Int32.toNatClampNeg 4))) (h0 + 14)) (Int32.toNatClampNeg 0) (Int32.toNatClampNeg 0) (Int32.toNatClampNeg 4))) (h0 + 15)) (Int32.toNatClampNeg 0) (Int32.toNatClampNeg 0) (Int32.toNatClampNeg 10))) h0 5 ((jx_set (jx_set (jx_set v (h0 + 13) (va_cpy (v (h1 + 13)) (v (h0 + 13)) (Int32.toNatClampNeg 0) (Int32.toNatClampNeg 0) (Int32.toNatClampNeg 4))) (h0 + 14) (va_cpy ((jx_set v (h0 + 13) (va_cpy (v (h1 + 13)) (v (h0 + 13)) (Int32.toNatClampNeg 0) (Int32.toNatClampNeg 0) (Int32.toNatClampNeg 4))) (h1 + 14)) ((jx_set v (h0 + 13) (va_cpy (v (h1 + 13)) (v (h0 + 13)) (Int32.toNatClampNeg 0) (Int32.toNatClampNeg 0) (Int32.toNatClampNeg 4))) (h0 + 14)) (Int32.toNatClampNeg 0) (Int32.toNatClampNeg 0) (Int32.toNatClampNeg 4))) (h0 + 15) (va_cpy ((jx_set (jx_set v (h0 + 13) (va_cpy (v (h1 + 13)) (v (h0 + 13)) (Int32.toNatClampNeg 0) (Int32.toNatClampNeg 0) (Int32.toNatClampNeg 4))) (h0 + 14) (va_cpy ((jx_set v (h0 + 13) (va_cpy (v (h1 + 13)) (v (h0 + 13)) (Int32.toNatClampNeg 0) (Int32.toNatClampNeg 0) (Int32.toNatClampNeg 4))) (h1 + 14)) ((jx_set v (h0 + 13) (va_cpy (v (h1 + 13)) (v (h0 + 13)) (Int32.toNatClampNeg 0) (Int32.toNatClampNeg 0) (Int32.toNatClampNeg 4))) (h0 + 14)) (Int32.toNatClampNeg 0) (Int32.toNatClampNeg 0) (Int32.toNatClampNeg 4))) (h1 + 15)) ((jx_set (jx_set v (h0 + 13) (va_cpy (v (h1 + 13)) (v (h0 + 13)) (Int32.toNatClampNeg 0) (Int32.toNatClampNeg 0) (Int32.toNatClampNeg 4))) (h0 + 14) (va_cpy ((jx_set v (h0 + 13) (va_cpy (v (h1 + 13)) (v (h0 + 13)) (Int32.toNatClampNeg 0) (Int32.toNatClampNeg 0) (Int32.toNatClampNeg 4))) (h1 + 14)) ((jx_set v (h0 + 13) (va_cpy (v (h1 + 13)) (v (h0 + 13)) (Int32.toNatClampNeg 0) (Int32.toNatClampNeg 0) (Int32.toNatClampNeg 4))) (h0 + 14)) (Int32.toNatClampNeg 0) (Int32.toNatClampNeg 0) (Int32.toNatClampNeg 4))) (h0 + 15)) (Int32.toNatClampNeg 0) (Int32.toNatClampNeg 0) (Int32.toNatClampNeg 10))) h1 5)) h0 6 ((jx_up (jx_set (jx_set (jx_set v (h0 + 13) (va_cpy (v (h1 + 13)) (v (h0 + 13)) (Int32.toNatClampNeg 0) (Int32.toNatClampNeg 0) (Int32.toNatClampNeg 4))) (h0 + 14) (va_cpy ((jx_set v (h0 + 13) (va_cpy (v (h1 + 13)) (v (h0 + 13)) (Int32.toNatClampNeg 0) (Int32.toNatClampNeg 0) (Int32.toNatClampNeg 4))) (h1 + 14)) ((jx_set v (h0 + 13) (va_cpy (v (h1 + 13)) (v (h0 + 13)) (Int32.toNatClampNeg 0) (Int32.toNatClampNeg 0) (Int32.toNatClampNeg 4))) (h0 + 14)) (Int32.toNatClampNeg 0) (Int32.toNatClampNeg 0) (Int32.toNatClampNeg 4))) (h0 + 15) (va_cpy ((jx_set (jx_set v (h0 + 13) (va_cpy (v (h1 + 13)) (v (h0 + 13)) (Int32.toNatClampNeg 0) (Int32.toNatClampNeg 0) (Int32.toNatClampNeg 4))) (h0 + 14) (va_cpy ((jx_set v (h0 + 13) (va_cpy (v (h1 + 13)) (v (h0 + 13)) (Int32.toNatClampNeg 0) (Int32.toNatClampNeg 0) (Int32.toNatClampNeg 4))) (h1 + 14)) ((jx_set v (h0 + 13) (va_cpy (v (h1 + 13)) (v (h0 + 13)) (Int32.toNatClampNeg 0) (Int32.toNatClampNeg 0) (Int32.toNatClampNeg 4))) (h0 + 14)) (Int32.toNatClampNeg 0) (Int32.toNatClampNeg 0) (Int32.toNatClampNeg 4))) (h1 + 15)) ((jx_set (jx_set v (h0 + 13) (va_cpy (v (h1 + 13)) (v (h0 + 13)) (Int32.toNatClampNeg 0) (Int32.toNatClampNeg 0) (Int32.toNatClampNeg 4))) (h0 + 14) (va_cpy ((jx_set v (h0 + 13) (va_cpy (v (h1 + 13)) (v (h0 + 13)) (Int32.toNatClampNeg 0) (Int32.toNatClampNeg 0) (Int32.toNatClampNeg 4))) (h1 + 14)) ((jx_set v (h0 + 13) (va_cpy (v (h1 + 13)) (v (h0 + 13)) (Int32.toNatClampNeg 0) (Int32.toNatClampNeg 0) (Int32.toNatClampNeg 4))) (h0 + 14)) (Int32.toNatClampNeg 0) (Int32.toNatClampNeg 0) (Int32.toNatClampNeg 4))) (h0 + 15)) (Int32.toNatClampNeg 0) (Int32.toNatClampNeg 0) (Int32.toNatClampNeg 10))) h0 5 ((jx_set (jx_set (jx_set v (h0 + 13) (va_cpy (v (h1 + 13)) (v (h0 + 13)) (Int32.toNatClampNeg 0) (Int32.toNatClampNeg 0) (Int32.toNatClampNeg 4))) (h0 + 14) (va_cpy ((jx_set v (h0 + 13) (va_cpy (v (h1 + 13)) (v (h0 + 13)) (Int32.toNatClampNeg 0) (Int32.toNatClampNeg 0) (Int32.toNatClampNeg 4))) (h1 + 14)) ((jx_set v (h0 + 13) (va_cpy (v (h1 + 13)) (v (h0 + 13)) (Int32.toNatClampNeg 0) (Int32.toNatClampNeg 0) (Int32.toNatClampNeg 4))) (h0 + 14)) (Int32.toNatClampNeg 0) (Int32.toNatClampNeg 0) (Int32.toNatClampNeg 4))) (h0 + 15) (va_cpy ((jx_set (jx_set v (h0 + 13) (va_cpy (v (h1 + 13)) (v (h0 + 13)) (Int32.toNatClampNeg 0) (Int32.toNatClampNeg 0) (Int32.toNatClampNeg 4))) (h0 + 14) (va_cpy ((jx_set v (h0 + 13) (va_cpy (v (h1 + 13)) (v (h0 + 13)) (Int32.toNatClampNeg 0) (Int32.toNatClampNeg 0) (Int32.toNatClampNeg 4))) (h1 + 14)) ((jx_set v (h0 + 13) (va_cpy (v (h1 + 13)) (v (h0 + 13)) (Int32.toNatClampNeg 0) (Int32.toNatClampNeg 0) (Int32.toNatClampNeg 4))) (h0 + 14)) (Int32.toNatClampNeg 0) (Int32.toNatClampNeg 0) (Int32.toNatClampNeg 4))) (h1 + 15)) ((jx_set (jx_set v (h0 + 13) (va_cpy (v (h1 + 13)) (v (h0 + 13)) (Int32.toNatClampNeg 0) (Int32.toNatClampNeg 0) (Int32.toNatClampNeg 4))) (h0 + 14) (va_cpy ((jx_set v (h0 + 13) (va_cpy (v (h1 + 13)) (v (h0 + 13)) (Int32.toNatClampNeg 0) (Int32.toNatClampNeg 0) (Int32.toNatClampNeg 4))) (h1 + 14)) ((jx_set v (h0 + 13) (va_cpy (v (h1 + 13)) (v (h0 + 13)) (Int32.toNatClampNeg 0) (Int32.toNatClampNeg 0) (Int32.toNatClampNeg 4))) (h0 + 14)) (Int32.toNatClampNeg 0) (Int32.toNatClampNeg 0) (Int32.toNatClampNeg 4))) (h0 + 15)) (Int32.toNatClampNeg 0) (Int32.toNatClampNeg 0) (Int32.toNatClampNeg 10))) h1 5)) h1 6)) h0 7 ((jx_up (jx_up (jx_set (jx_set (jx_set v (h0 + 13) (va_cpy (v (h1 + 13)) (v (h0 + 13)) (Int32.toNatClampNeg 0) (Int32.toNatClampNeg 0) (Int32.toNatClampNeg 4))) (h0 + 14) (va_cpy ((jx_set v (h0 + 13) (va_cpy (v (h1 + 13)) (v (h0 + 13)) (Int32.toNatClampNeg 0) (Int32.toNatClampNeg 0) (Int32.toNatClampNeg 4))) (h1 + 14)) ((jx_set v (h0 + 13) (va_cpy (v (h1 + 13)) (v (h0 + 13)) (Int32.toNatClampNeg 0) (Int32.toNatClampNeg 0) (Int32.toNatClampNeg 4))) (h0 + 14)) (Int32.toNatClampNeg 0) (Int32.toNatClampNeg 0) (Int32.toNatClampNeg 4))) (h0 + 15) (va_cpy ((jx_set (jx_set v (h0 + 13) (va_cpy (v (h1 + 13)) (v (h0 + 13)) (Int32.toNatClampNeg 0) (Int32.toNatClampNeg 0) (Int32.toNatClampNeg 4))) (h0 + 14) (va_cpy ((jx_set v (h0 + 13) (va_cpy (v (h1 + 13)) (v (h0 + 13)) (Int32.toNatClampNeg 0) (Int32.toNatClampNeg 0) (Int32.toNatClampNeg 4))) (h1 + 14)) ((jx_set v (h0 + 13) (va_cpy (v (h1 + 13)) (v (h0 + 13)) (Int32.toNatClampNeg 0) (Int32.toNatClampNeg 0) (Int32.toNatClampNeg 4))) (h0 + 14)) (Int32.toNatClampNeg 0) (Int32.toNatClampNeg 0) (Int32.toNatClampNeg 4))) (h1 + 15)) ((jx_set (jx_set v (h0 + 13) (va_cpy (v (h1 + 13)) (v (h0 + 13)) (Int32.toNatClampNeg 0) (Int32.toNatClampNeg 0) (Int32.toNatClampNeg 4))) (h0 + 14) (va_cpy ((jx_set v (h0 + 13) (va_cpy (v (h1 + 13)) (v (h0 + 13)) (Int32.toNatClampNeg 0) (Int32.toNatClampNeg 0) (Int32.toNatClampNeg 4))) (h1 + 14)) ((jx_set v (h0 + 13) (va_cpy (v (h1 + 13)) (v (h0 + 13)) (Int32.toNatClampNeg 0) (Int32.toNatClampNeg 0) (Int32.toNatClampNeg 4))) (h0 + 14)) (Int32.toNatClampNeg 0) (Int32.toNatClampNeg 0) (Int32.toNatClampNeg 4))) (h0 + 15)) (Int32.toNatClampNeg 0) (Int32.toNatClampNeg 0) (Int32.toNatClampNeg 10))) h0 5 ((jx_set (jx_set (jx_set v (h0 + 13) (va_cpy (v (h1 + 13)) (v (h0 + 13)) (Int32.toNatClampNeg 0) (Int32.toNatClampNeg 0) (Int32.toNatClampNeg 4))) (h0 + 14) (va_cpy ((jx_set v (h0 + 13) (va_cpy (v (h1 + 13)) (v (h0 + 13)) (Int32.toNatClampNeg 0) (Int32.toNatClampNeg 0) (Int32.toNatClampNeg 4))) (h1 + 14)) ((jx_set v (h0 + 13) (va_cpy (v (h1 + 13)) (v (h0 + 13)) (Int32.toNatClampNeg 0) (Int32.toNatClampNeg 0) (Int32.toNatClampNeg 4))) (h0 + 14)) (Int32.toNatClampNeg 0) (Int32.toNatClampNeg 0) (Int32.toNatClampNeg 4))) (h0 + 15) (va_cpy ((jx_set (jx_set v (h0 + 13) (va_cpy (v (h1 + 13)) (v (h0 + 13)) (Int32.toNatClampNeg 0) (Int32.toNatClampNeg 0) (Int32.toNatClampNeg 4))) (h0 + 14) (va_cpy ((jx_set v (h0 + 13) (va_cpy (v (h1 + 13)) (v (h0 + 13)) (Int32.toNatClampNeg 0) (Int32.toNatClampNeg 0) (Int32.toNatClampNeg 4))) (h1 + 14)) ((jx_set v (h0 + 13) (va_cpy (v (h1 + 13)) (v (h0 + 13)) (Int32.toNatClampNeg 0) (Int32.toNatClampNeg 0) (Int32.toNatClampNeg 4))) (h0 + 14)) (Int32.toNatClampNeg 0) (Int32.toNatClampNeg 0) (Int32.toNatClampNeg 4))) (h1 + 15)) ((jx_set (jx_set v (h0 + 13) (va_cpy (v (h1 + 13)) (v (h0 + 13)) (Int32.toNatClampNeg 0) (Int32.toNatClampNeg 0) (Int32.toNatClampNeg 4))) (h0 + 14) (va_cpy ((jx_set v (h0 + 13) (va_cpy (v (h1 + 13)) (v (h0 + 13)) (Int32.toNatClampNeg 0) (Int32.toNatClampNeg 0) (Int32.toNatClampNeg 4))) (h1 + 14)) ((jx_set v (h0 + 13) (va_cpy (v (h1 + 13)) (v (h0 + 13)) (Int32.toNatClampNeg 0) (Int32.toNatClampNeg 0) (Int32.toNatClampNeg 4))) (h0 + 14)) (Int32.toNatClampNeg 0) (Int32.toNatClampNeg 0) (Int32.toNatClampNeg 4))) (h0 + 15)) (Int32.toNatClampNeg 0) (Int32.toNatClampNeg 0) (Int32.toNatClampNeg 10))) h1 5)) h0 6 ((jx_up (jx_set (jx_set (jx_set v (h0 + 13) (va_cpy (v (h1 + 13)) (v (h0 + 13)) (Int32.toNatClampNeg 0) (Int32.toNatClampNeg 0) (Int32.toNatClampNeg 4))) (h0 + 14) (va_cpy ((jx_set v (h0 + 13) (va_cpy (v (h1 + 13)) (v (h0 + 13)) (Int32.toNatClampNeg 0) (Int32.toNatClampNeg 0) (Int32.toNatClampNeg 4))) (h1 + 14)) ((jx_set v (h0 + 13) (va_cpy (v (h1 + 13)) (v (h0 + 13)) (Int32.toNatClampNeg 0) (Int32.toNatClampNeg 0) (Int32.toNatClampNeg 4))) (h0 + 14)) (Int32.toNatClampNeg 0) (Int32.toNatClampNeg 0) (Int32.toNatClampNeg 4))) (h0 + 15) (va_cpy ((jx_set (jx_set v (h0 + 13) (va_cpy (v (h1 + 13)) (v (h0 + 13)) (Int32.toNatClampNeg 0) (Int32.toNatClampNeg 0) (Int32.toNatClampNeg 4))) (h0 + 14) (va_cpy ((jx_set v (h0 + 13) (va_cpy (v (h1 + 13)) (v (h0 + 13)) (Int32.toNatClampNeg 0) (Int32.toNatClampNeg 0) (Int32.toNatClampNeg 4))) (h1 + 14)) ((jx_set v (h0 + 13) (va_cpy (v (h1 + 13)) (v (h0 + 13)) (Int32.toNatClampNeg 0) (Int32.toNatClampNeg 0) (Int32.toNatClampNeg 4))) (h0 + 14)) (Int32.toNatClampNeg 0) (Int32.toNatClampNeg 0) (Int32.toNatClampNeg 4))) (h1 + 15)) ((jx_set (jx_set v (h0 + 13) (va_cpy (v (h1 + 13)) (v (h0 + 13)) (Int32.toNatClampNeg 0) (Int32.toNatClampNeg 0) (Int32.toNatClampNeg 4))) (h0 + 14) (va_cpy ((jx_set v (h0 + 13) (va_cpy (v (h1 + 13)) (v (h0 + 13)) (Int32.toNatClampNeg 0) (Int32.toNatClampNeg 0) (Int32.toNatClampNeg 4))) (h1 + 14)) ((jx_set v (h0 + 13) (va_cpy (v (h1 + 13)) (v (h0 + 13)) (Int32.toNatClampNeg 0) (Int32.toNatClampNeg 0) (Int32.toNatClampNeg 4))) (h0 + 14)) (Int32.toNatClampNeg 0) (Int32.toNatClampNeg 0) (Int32.toNatClampNeg 4))) (h0 + 15)) (Int32.toNatClampNeg 0) (Int32.toNatClampNeg 0) (Int32.toNatClampNeg 10))) h0 5 ((jx_set (jx_set (jx_set v (h0 + 13) (va_cpy (v (h1 + 13)) (v (h0 + 13)) (Int32.toNatClampNeg 0) (Int32.toNatClampNeg 0) (Int32.toNatClampNeg 4))) (h0 + 14) (va_cpy ((jx_set v (h0 + 13) (va_cpy (v (h1 + 13)) (v (h0 + 13)) (Int32.toNatClampNeg 0) (Int32.toNatClampNeg 0) (Int32.toNatClampNeg 4))) (h1 + 14)) ((jx_set v (h0 + 13) (va_cpy (v (h1 + 13)) (v (h0 + 13)) (Int32.toNatClampNeg 0) (Int32.toNatClampNeg 0) (Int32.toNatClampNeg 4))) (h0 + 14)) (Int32.toNatClampNeg 0) (Int32.toNatClampNeg 0) (Int32.toNatClampNeg 4))) (h0 + 15) (va_cpy ((jx_set (jx_set v (h0 + 13) (va_cpy (v (h1 + 13)) (v (h0 + 13)) (Int32.toNatClampNeg 0) (Int32.toNatClampNeg 0) (Int32.toNatClampNeg 4))) (h0 + 14) (va_cpy ((jx_set v (h0 + 13) (va_cpy (v (h1 + 13)) (v (h0 + 13)) (Int32.toNatClampNeg 0) (Int32.toNatClampNeg 0) (Int32.toNatClampNeg 4))) (h1 + 14)) ((jx_set v (h0 + 13) (va_cpy (v (h1 + 13)) (v (h0 + 13)) (Int32.toNatClampNeg 0) (Int32.toNatClampNeg 0) (Int32.toNatClampNeg 4))) (h0 + 14)) (Int32.toNatClampNeg 0) (Int32.toNatClampNeg 0) (Int32.toNatClampNeg 4))) (h1 + 15)) ((jx_set (jx_set v (h0 + 13) (va_cpy (v (h1 + 13)) (v (h0 + 13)) (Int32.toNatClampNeg 0) (Int32.toNatClampNeg 0) (Int32.toNatClampNeg 4))) (h0 + 14) (va_cpy ((jx_set v (h0 + 13) (va_cpy (v (h1 + 13)) (v (h0 + 13)) (Int32.toNatClampNeg 0) (Int32.toNatClampNeg 0) (Int32.toNatClampNeg 4))) (h1 + 14)) ((jx_set v (h0 + 13) (va_cpy (v (h1 + 13)) (v (h0 + 13)) (Int32.toNatClampNeg 0) (Int32.toNatClampNeg 0) (Int32.toNatClampNeg 4))) (h0 + 14)) (Int32.toNatClampNeg 0) (Int32.toNatClampNeg 0) (Int32.toNatClampNeg 4))) (h0 + 15)) (Int32.toNatClampNeg 0) (Int32.toNatClampNeg 0) (Int32.toNatClampNeg 10))) h1 5)) h1 6)) h1 7))) else (if (x2 < 0 ∨ 6 ≤ (x2).toNatClampNeg) then none else (if (x2 < 0 ∨ 6 ≤ (x2).toNatClampNeg) then none else (f_X3_become_L h0 h1 n 1 (x2 + 1) (jx_set v (h0 + 7 + (x2).toNatClampNeg) (va_cpy (v (h1 + 7 + (x2).toNatClampNeg)) (v (h0 + 7 + (x2).toNatClampNeg)) (Int32.toNatClampNeg 0) (Int32.toNatClampNeg 0) (Int32.toNatClampNeg 10))))))) else none))
def f_X3_become (h0 : Nat) (h1 : Nat) (v : jx_V) : Option (jx_V) := (f_X3_become_L h0 h1 100000 0 0 v)
def rm_X3_become : Room := { frames := 1, cells := 0, slots := 0, locals := 60 }
set_option maxHeartbeats 4000000 in
set_option maxRecDepth 100000 in
theorem k_X3_become {l : Launch} {D : va_G} {cI cJ : ClassId} {ad : Nat → Nat} {A : Nat → Prop} {adK adV : Nat → Nat} (hI : jx_inj 67 ad A) (h0 : Nat) (hT0 : jx_T h0) (h1 : Nat) (hT1 : jx_T h1) (v : jx_V) (v' : jx_V) (hF : f_X3_become h0 h1 v = some v') : jx_Cv l D vwCl 67 cI cJ ad shX A (ex_X adK adV A) yX3_become (Cond.code yX3_become cX3_become 3 (none) :: bigT) rm_X3_become [.ref (ad h0), .ref (ad h1)] v v' := by
  unfold f_X3_become at hF
  refine jx_enterv bigT RX3 cX3_become 3 (none) [(0, .ref (ad h0)), (1, .ref (ad h1))] hI (ex_X_ok adK adV A) (by decide +kernel) rfl (Nat.le_of_ble_eq_true rfl) rfl rfl ?_
  intro p e s m args below meth c E
  have iX3 : ∀ w ∈ u_ws RX3 TX3 8, w ∈ (Cond.code yX3_become cX3_become 3 (none) :: bigT) := fun w h => List.mem_cons_of_mem _ (uw_X3 w h)
  have key : ∀ n : Nat, (∀ (x2 : Int32) (v : jx_V), f_X3_become_L h0 h1 n 0 x2 v = some v' → jx_J p l e rm_X3_become s m args below meth c D vwCl 67 cI cJ ad shX A 0 0 3 (MQ below (va_Qv (fun (_ : Unit) => True) (fun _ t => va_P D vwCl (jx_ws 67 cI cJ ad shX v') t.heap) A) args s 0 0 A) v 2 [(0, .ref (ad h0)), (1, .ref (ad h1)), (2, .int x2)] []) ∧ (∀ (x2 : Int32) (v : jx_V), f_X3_become_L h0 h1 n 1 x2 v = some v' → jx_J p l e rm_X3_become s m args below meth c D vwCl 67 cI cJ ad shX A 0 0 3 (MQ below (va_Qv (fun (_ : Unit) => True) (fun _ t => va_P D vwCl (jx_ws 67 cI cJ ad shX v') t.heap) A) args s 0 0 A) v 34 [(0, .ref (ad h0)), (1, .ref (ad h1)), (2, .int x2)] []) := by
    intro n
    induction n with
    | zero =>
      exact ⟨(fun _ _ h => by cases h), (fun _ _ h => by cases h)⟩
    | succ n ih =>
      refine ⟨?_, ?_⟩
      · intro x2 v hF
        rw [f_X3_become_L] at hF
        rw [if_pos rfl] at hF
        refine jx_iload_n E dX3_become_2 2 rfl ?_
        refine jx_iconst (x := 4) E dX3_become_3 (by decide) ?_
        refine jx_icmp_ge (tgt := 32) E dX3_become_4 (by decide) (fun hc1 => ?_) (fun hc1 => ?_)
        · rw [if_pos hc1] at hF
          refine jx_iconst (x := 0) E dX3_become_32 (by decide) ?_
          refine jx_istore_n (lv' := [(2, .int 0), (0, .ref (ad h0)), (1, .ref (ad h1))]) E dX3_become_33 (by decide) rfl ?_
          refine jx_sub [1, 2, 0] rfl ?_
          exact ih.2 0 v hF
        · rw [if_neg hc1] at hF
          refine jx_aload_n E dX3_become_7 1 rfl ?_
          refine jx_getr (C := RX3) (T := TX3) (M := 8) (k := 0) E dX3_become_8 (n_T0 hT1) (s_T0 hT1) rfl iX3 (by decide) rfl (List.mem_cons_of_mem _ tw_27) rfl ?_
          refine jx_iload_n E dX3_become_11 2 rfl ?_
          obtain ⟨hg2, hF⟩ := jx_guard hF
          refine jx_aald (h' := (h1 + 3 + (x2).toNatClampNeg)) E dX3_become_12 (n_T1 hT1) (s_T1 hT1) hg2 (l_Tr (t := h1) (l_lt hg2)) ?_
          refine jx_iconst (x := 0) E dX3_become_13 (by decide) ?_
          refine jx_aload_n E dX3_become_14 0 rfl ?_
          refine jx_getr (C := RX3) (T := TX3) (M := 8) (k := 0) E dX3_become_15 (n_T0 hT0) (s_T0 hT0) rfl iX3 (by decide) rfl (List.mem_cons_of_mem _ tw_27) rfl ?_
          refine jx_iload_n E dX3_become_18 2 rfl ?_
          obtain ⟨hg3, hF⟩ := jx_guard hF
          refine jx_aald (h' := (h0 + 3 + (x2).toNatClampNeg)) E dX3_become_19 (n_T1 hT0) (s_T1 hT0) hg3 (l_Tr (t := h0) (l_lt hg3)) ?_
          refine jx_iconst (x := 0) E dX3_become_20 (by decide) ?_
          refine jx_bipush (x := 25) E dX3_become_21 (by decide) ?_
          refine jx_copy (h0 := (h1 + 3 + (x2).toNatClampNeg)) (h1 := (h0 + 3 + (x2).toNatClampNeg)) (st := []) E dX3_become_23 (List.mem_cons_of_mem _ tw_172) (List.mem_cons_of_mem _ tw_173) (List.mem_cons_of_mem _ tw_174) (List.mem_cons_of_mem _ tw_175) (n_Tr hT1 (l_lt hg2)) (s_Tr hT1 (l_lt hg2)) (n_Tr hT0 (l_lt hg3)) (s_Tr hT0 (l_lt hg3)) (by decide) (by decide) (by decide) (by decide) (by decide) (by decide) (by decide) ?_
          refine jx_iinc (y := (x2 + 1)) (lv' := [(2, .int (x2 + 1)), (0, .ref (ad h0)), (1, .ref (ad h1))]) E dX3_become_26 2 rfl rfl (by decide) rfl ?_
          refine jx_goto (tgt := 2) E dX3_become_29 (by decide) ?_
          refine jx_sub [1, 2, 0] rfl ?_
          exact ih.1 (x2 + 1) (jx_set v (h0 + 3 + (x2).toNatClampNeg) (va_cpy (v (h1 + 3 + (x2).toNatClampNeg)) (v (h0 + 3 + (x2).toNatClampNeg)) (Int32.toNatClampNeg 0) (Int32.toNatClampNeg 0) (Int32.toNatClampNeg 25))) hF
      · intro x2 v hF
        rw [f_X3_become_L] at hF
        rw [if_neg (by decide), if_pos rfl] at hF
        refine jx_iload_n E dX3_become_34 2 rfl ?_
        refine jx_bipush (x := 6) E dX3_become_35 (by decide) ?_
        refine jx_icmp_ge (tgt := 65) E dX3_become_37 (by decide) (fun hc4 => ?_) (fun hc4 => ?_)
        · rw [if_pos hc4] at hF
          refine jx_aload_n E dX3_become_65 1 rfl ?_
          refine jx_getr (C := RX3) (T := TX3) (M := 8) (k := 2) E dX3_become_66 (n_T0 hT1) (s_T0 hT1) rfl iX3 (by decide) rfl (List.mem_cons_of_mem _ tw_73) rfl ?_
          refine jx_iconst (x := 0) E dX3_become_69 (by decide) ?_
          refine jx_aload_n E dX3_become_70 0 rfl ?_
          refine jx_getr (C := RX3) (T := TX3) (M := 8) (k := 2) E dX3_become_71 (n_T0 hT0) (s_T0 hT0) rfl iX3 (by decide) rfl (List.mem_cons_of_mem _ tw_73) rfl ?_
          refine jx_iconst (x := 0) E dX3_become_74 (by decide) ?_
          refine jx_iconst (x := 4) E dX3_become_75 (by decide) ?_
          refine jx_copy (h0 := (h1 + 13)) (h1 := (h0 + 13)) (st := []) E dX3_become_76 (List.mem_cons_of_mem _ tw_172) (List.mem_cons_of_mem _ tw_173) (List.mem_cons_of_mem _ tw_174) (List.mem_cons_of_mem _ tw_175) (n_T13 hT1) (s_T13 hT1) (n_T13 hT0) (s_T13 hT0) (by decide) (by decide) (by decide) (by decide) (by decide) (by decide) (by decide) ?_
          refine jx_aload_n E dX3_become_79 1 rfl ?_
          refine jx_getr (C := RX3) (T := TX3) (M := 8) (k := 3) E dX3_become_80 (n_T0 hT1) (s_T0 hT1) rfl iX3 (by decide) rfl (List.mem_cons_of_mem _ tw_176) rfl ?_
          refine jx_iconst (x := 0) E dX3_become_83 (by decide) ?_
          refine jx_aload_n E dX3_become_84 0 rfl ?_
          refine jx_getr (C := RX3) (T := TX3) (M := 8) (k := 3) E dX3_become_85 (n_T0 hT0) (s_T0 hT0) rfl iX3 (by decide) rfl (List.mem_cons_of_mem _ tw_176) rfl ?_
          refine jx_iconst (x := 0) E dX3_become_88 (by decide) ?_
          refine jx_iconst (x := 4) E dX3_become_89 (by decide) ?_
          refine jx_copy (h0 := (h1 + 14)) (h1 := (h0 + 14)) (st := []) E dX3_become_90 (List.mem_cons_of_mem _ tw_172) (List.mem_cons_of_mem _ tw_173) (List.mem_cons_of_mem _ tw_174) (List.mem_cons_of_mem _ tw_175) (n_T14 hT1) (s_T14 hT1) (n_T14 hT0) (s_T14 hT0) (by decide) (by decide) (by decide) (by decide) (by decide) (by decide) (by decide) ?_
          refine jx_aload_n E dX3_become_93 1 rfl ?_
          refine jx_getr (C := RX3) (T := TX3) (M := 8) (k := 4) E dX3_become_94 (n_T0 hT1) (s_T0 hT1) rfl iX3 (by decide) rfl (List.mem_cons_of_mem _ tw_177) rfl ?_
          refine jx_iconst (x := 0) E dX3_become_97 (by decide) ?_
          refine jx_aload_n E dX3_become_98 0 rfl ?_
          refine jx_getr (C := RX3) (T := TX3) (M := 8) (k := 4) E dX3_become_99 (n_T0 hT0) (s_T0 hT0) rfl iX3 (by decide) rfl (List.mem_cons_of_mem _ tw_177) rfl ?_
          refine jx_iconst (x := 0) E dX3_become_102 (by decide) ?_
          refine jx_bipush (x := 10) E dX3_become_103 (by decide) ?_
          refine jx_copy (h0 := (h1 + 15)) (h1 := (h0 + 15)) (st := []) E dX3_become_105 (List.mem_cons_of_mem _ tw_172) (List.mem_cons_of_mem _ tw_173) (List.mem_cons_of_mem _ tw_174) (List.mem_cons_of_mem _ tw_175) (n_T15 hT1) (s_T15 hT1) (n_T15 hT0) (s_T15 hT0) (by decide) (by decide) (by decide) (by decide) (by decide) (by decide) (by decide) ?_
          refine jx_aload_n E dX3_become_108 0 rfl ?_
          refine jx_aload_n E dX3_become_109 1 rfl ?_
          refine jx_geti (C := RX3) (T := TX3) (M := 8) (k := 5) E dX3_become_110 (n_T0 hT1) (s_T0 hT1) rfl iX3 (by decide) rfl (List.mem_cons_of_mem _ tw_140) rfl ?_
          refine jx_puti (C := RX3) (T := TX3) (M := 8) (k := 5) (ty := .int) E tyX3 dX3_become_113 (n_T0 hT0) (s_T0 hT0) rfl iX3 (by decide) rfl (List.mem_cons_of_mem _ tw_140) tyX3_ok nmX3 rfl (by decide +kernel) rfl rfl rfl ?_
          refine jx_aload_n E dX3_become_116 0 rfl ?_
          refine jx_aload_n E dX3_become_117 1 rfl ?_
          refine jx_geti (C := RX3) (T := TX3) (M := 8) (k := 6) E dX3_become_118 (n_T0 hT1) (s_T0 hT1) rfl iX3 (by decide) rfl (List.mem_cons_of_mem _ tw_28) rfl ?_
          refine jx_puti (C := RX3) (T := TX3) (M := 8) (k := 6) (ty := .int) E tyX3 dX3_become_121 (n_T0 hT0) (s_T0 hT0) rfl iX3 (by decide) rfl (List.mem_cons_of_mem _ tw_28) tyX3_ok nmX3 rfl (by decide +kernel) rfl rfl rfl ?_
          refine jx_aload_n E dX3_become_124 0 rfl ?_
          refine jx_aload_n E dX3_become_125 1 rfl ?_
          refine jx_geti (C := RX3) (T := TX3) (M := 8) (k := 7) E dX3_become_126 (n_T0 hT1) (s_T0 hT1) rfl iX3 (by decide) rfl (List.mem_cons_of_mem _ tw_178) rfl ?_
          refine jx_puti (C := RX3) (T := TX3) (M := 8) (k := 7) (ty := .int) E tyX3 dX3_become_129 (n_T0 hT0) (s_T0 hT0) rfl iX3 (by decide) rfl (List.mem_cons_of_mem _ tw_178) tyX3_ok nmX3 rfl (by decide +kernel) rfl rfl rfl ?_
          obtain rfl := Option.some.inj hF
          exact jx_vret E dX3_become_132 rfl
        · rw [if_neg hc4] at hF
          refine jx_aload_n E dX3_become_40 1 rfl ?_
          refine jx_getr (C := RX3) (T := TX3) (M := 8) (k := 1) E dX3_become_41 (n_T0 hT1) (s_T0 hT1) rfl iX3 (by decide) rfl (List.mem_cons_of_mem _ tw_141) rfl ?_
          refine jx_iload_n E dX3_become_44 2 rfl ?_
          obtain ⟨hg5, hF⟩ := jx_guard hF
          refine jx_aald (h' := (h1 + 7 + (x2).toNatClampNeg)) E dX3_become_45 (n_T2 hT1) (s_T2 hT1) hg5 (l_Tw (t := h1) (l_lt hg5)) ?_
          refine jx_iconst (x := 0) E dX3_become_46 (by decide) ?_
          refine jx_aload_n E dX3_become_47 0 rfl ?_
          refine jx_getr (C := RX3) (T := TX3) (M := 8) (k := 1) E dX3_become_48 (n_T0 hT0) (s_T0 hT0) rfl iX3 (by decide) rfl (List.mem_cons_of_mem _ tw_141) rfl ?_
          refine jx_iload_n E dX3_become_51 2 rfl ?_
          obtain ⟨hg6, hF⟩ := jx_guard hF
          refine jx_aald (h' := (h0 + 7 + (x2).toNatClampNeg)) E dX3_become_52 (n_T2 hT0) (s_T2 hT0) hg6 (l_Tw (t := h0) (l_lt hg6)) ?_
          refine jx_iconst (x := 0) E dX3_become_53 (by decide) ?_
          refine jx_bipush (x := 10) E dX3_become_54 (by decide) ?_
          refine jx_copy (h0 := (h1 + 7 + (x2).toNatClampNeg)) (h1 := (h0 + 7 + (x2).toNatClampNeg)) (st := []) E dX3_become_56 (List.mem_cons_of_mem _ tw_172) (List.mem_cons_of_mem _ tw_173) (List.mem_cons_of_mem _ tw_174) (List.mem_cons_of_mem _ tw_175) (n_Tw hT1 (l_lt hg5)) (s_Tw hT1 (l_lt hg5)) (n_Tw hT0 (l_lt hg6)) (s_Tw hT0 (l_lt hg6)) (by decide) (by decide) (by decide) (by decide) (by decide) (by decide) (by decide) ?_
          refine jx_iinc (y := (x2 + 1)) (lv' := [(2, .int (x2 + 1)), (0, .ref (ad h0)), (1, .ref (ad h1))]) E dX3_become_59 2 rfl rfl (by decide) rfl ?_
          refine jx_goto (tgt := 34) E dX3_become_62 (by decide) ?_
          refine jx_sub [1, 2, 0] rfl ?_
          exact ih.2 (x2 + 1) (jx_set v (h0 + 7 + (x2).toNatClampNeg) (va_cpy (v (h1 + 7 + (x2).toNatClampNeg)) (v (h0 + 7 + (x2).toNatClampNeg)) (Int32.toNatClampNeg 0) (Int32.toNatClampNeg 0) (Int32.toNatClampNeg 10))) hF
  refine jx_iconst (x := 0) E dX3_become_0 (by decide) ?_
  refine jx_istore_n (lv' := [(2, .int 0), (0, .ref (ad h0)), (1, .ref (ad h1))]) E dX3_become_1 (by decide) rfl ?_
  refine jx_sub [1, 2, 0] rfl ?_
  exact (key 100000).1 0 v hF
def f_X3_isOwnersLot (h0 : Nat) (x1 : Int32) (x2 : Int32) (v : jx_V) : Option (Int32 × jx_V) := ((f_X3_isTaken h0 x1 v).bind (fun (r1, v1) => (if r1 = 0 then (some (0, v1)) else (if (x1 < 0 ∨ 25 ≤ Int32.toNatClampNeg x1) then none else (if (v1 (h0 + 4) (Int32.toNatClampNeg x1)) = x2 then (some (1, v1)) else (some (0, v1)))))))
def rm_X3_isOwnersLot : Room := { frames := 1, cells := 0, slots := 0, locals := 21 }
set_option maxHeartbeats 4000000 in
set_option maxRecDepth 100000 in
theorem k_X3_isOwnersLot {l : Launch} {D : va_G} {cI cJ : ClassId} {ad : Nat → Nat} {A : Nat → Prop} {adK adV : Nat → Nat} (hI : jx_inj 67 ad A) (h0 : Nat) (hT0 : jx_T h0) (x1 : Int32) (x2 : Int32) (v : jx_V) (r : Int32) (v' : jx_V) (hF : f_X3_isOwnersLot h0 x1 x2 v = some (r, v')) : jx_Ci l D vwCl 67 cI cJ ad shX A (ex_X adK adV A) yX3_isOwnersLot (Cond.code yX3_isOwnersLot cX3_isOwnersLot 3 (some .boolean) :: bigT) rm_X3_isOwnersLot [.ref (ad h0), .int x1, .int x2] v r v' := by
  unfold f_X3_isOwnersLot at hF
  refine jx_enteri bigT RX3 cX3_isOwnersLot 3 (some .boolean) [(0, .ref (ad h0)), (1, .int x1), (2, .int x2)] hI (ex_X_ok adK adV A) (by decide +kernel) rfl (Nat.le_of_ble_eq_true rfl) rfl rfl ?_
  intro p e s m args below meth c E
  have iX3 : ∀ w ∈ u_ws RX3 TX3 8, w ∈ (Cond.code yX3_isOwnersLot cX3_isOwnersLot 3 (some .boolean) :: bigT) := fun w h => List.mem_cons_of_mem _ (uw_X3 w h)
  refine jx_aload_n E dX3_isOwnersLot_0 0 rfl ?_
  refine jx_iload_n E dX3_isOwnersLot_1 1 rfl ?_
  obtain ⟨⟨r1, v1⟩, hc1, hF⟩ := jx_bind hF
  try dsimp only at hF
  refine jx_callVi (As := [.int x1]) (st := []) (h := h0) E dX3_isOwnersLot_2 1 rfl (k_X3_isTaken hI h0 hT0 x1 v r1 v1 hc1) (gb_V (List.mem_cons_of_mem _ tw_179) (List.mem_cons_of_mem _ tw_52) (List.mem_cons_of_mem _ tw_53) (List.mem_cons_of_mem _ tw_33) tw_51) rfl rfl rfl dd_X3_isTaken rfl (n_T0 hT0) (s_T0 hT0) rfl ⟨by decide, by decide⟩ ⟨Nat.le_refl 0, Nat.le_refl 0⟩ (Nat.le_of_ble_eq_true rfl) ?_
  refine jx_if_eq (tgt := 24) E dX3_isOwnersLot_5 (by decide) (fun hc2 => ?_) (fun hc2 => ?_)
  · rw [if_pos hc2] at hF
    refine jx_iconst (x := 0) E dX3_isOwnersLot_24 (by decide) ?_
    obtain ⟨rfl, rfl⟩ := jx_out hF
    exact jx_zret E dX3_isOwnersLot_25 rfl (Or.inl rfl)
  · rw [if_neg hc2] at hF
    refine jx_aload_n E dX3_isOwnersLot_8 0 rfl ?_
    refine jx_getr (C := RX3) (T := TX3) (M := 8) (k := 0) E dX3_isOwnersLot_9 (n_T0 hT0) (s_T0 hT0) rfl iX3 (by decide) rfl (List.mem_cons_of_mem _ tw_27) rfl ?_
    refine jx_iconst (x := 1) E dX3_isOwnersLot_12 (by decide) ?_
    refine jx_aald (h' := (h0 + 4)) E dX3_isOwnersLot_13 (n_T1 hT0) (s_T1 hT0) (show ¬ ((1 : Int32) < 0 ∨ 4 ≤ Int32.toNatClampNeg 1) by decide) rfl ?_
    refine jx_iload_n E dX3_isOwnersLot_14 1 rfl ?_
    obtain ⟨hg3, hF⟩ := jx_guard hF
    refine jx_iald (h := (h0 + 4)) (j := (Int32.toNatClampNeg x1)) E dX3_isOwnersLot_15 (n_T4 hT0) (s_T4 hT0) hg3 rfl ?_
    refine jx_iload_n E dX3_isOwnersLot_16 2 rfl ?_
    refine jx_icmp_ne (tgt := 24) E dX3_isOwnersLot_17 (by decide) (fun hc4 => ?_) (fun hc4 => ?_)
    · rw [if_neg hc4] at hF
      refine jx_iconst (x := 0) E dX3_isOwnersLot_24 (by decide) ?_
      obtain ⟨rfl, rfl⟩ := jx_out hF
      exact jx_zret E dX3_isOwnersLot_25 rfl (Or.inl rfl)
    · rw [if_pos hc4] at hF
      refine jx_iconst (x := 1) E dX3_isOwnersLot_20 (by decide) ?_
      refine jx_goto (tgt := 25) E dX3_isOwnersLot_21 (by decide) ?_
      obtain ⟨rfl, rfl⟩ := jx_out hF
      exact jx_zret E dX3_isOwnersLot_25 rfl (Or.inr rfl)
def f_X3_exchange_L (h0 : Nat) : Nat → Int32 → Int32 → Int32 → jx_V → Option (jx_V)
  | 0, _, _, _, _ => none
  | n + 1, x1, x2, x3, v => (if 4 ≤ x3 then (some v) else (if (x3 < 0 ∨ 4 ≤ (x3).toNatClampNeg) then none else (if (x1 < 0 ∨ 25 ≤ Int32.toNatClampNeg x1) then none else (if (x3 < 0 ∨ 4 ≤ (x3).toNatClampNeg) then none else (if (x3 < 0 ∨ 4 ≤ (x3).toNatClampNeg) then none else (if (x2 < 0 ∨ 25 ≤ Int32.toNatClampNeg x2) then none else (if (x1 < 0 ∨ 25 ≤ Int32.toNatClampNeg x1) then none else (if (x3 < 0 ∨ 4 ≤ (x3).toNatClampNeg) then none else (if (x2 < 0 ∨ 25 ≤ Int32.toNatClampNeg x2) then none else (f_X3_exchange_L h0 n x1 x2 (x3 + 1) (jx_up (jx_up v (h0 + 3 + (x3).toNatClampNeg) (Int32.toNatClampNeg x1) (v (h0 + 3 + (x3).toNatClampNeg) (Int32.toNatClampNeg x2))) (h0 + 3 + (x3).toNatClampNeg) (Int32.toNatClampNeg x2) (v (h0 + 3 + (x3).toNatClampNeg) (Int32.toNatClampNeg x1)))))))))))))
def f_X3_exchange (h0 : Nat) (x1 : Int32) (x2 : Int32) (v : jx_V) : Option (jx_V) := (f_X3_exchange_L h0 100000 x1 x2 0 v)
def rm_X3_exchange : Room := { frames := 0, cells := 0, slots := 0, locals := 0 }
set_option maxHeartbeats 4000000 in
set_option maxRecDepth 100000 in
theorem k_X3_exchange {l : Launch} {D : va_G} {cI cJ : ClassId} {ad : Nat → Nat} {A : Nat → Prop} {adK adV : Nat → Nat} (hI : jx_inj 67 ad A) (h0 : Nat) (hT0 : jx_T h0) (x1 : Int32) (x2 : Int32) (v : jx_V) (v' : jx_V) (hF : f_X3_exchange h0 x1 x2 v = some v') : jx_Cv l D vwCl 67 cI cJ ad shX A (ex_X adK adV A) yX3_exchange (Cond.code yX3_exchange cX3_exchange 5 (none) :: bigT) rm_X3_exchange [.ref (ad h0), .int x1, .int x2] v v' := by
  unfold f_X3_exchange at hF
  refine jx_enterv bigT RX3 cX3_exchange 5 (none) [(0, .ref (ad h0)), (1, .int x1), (2, .int x2)] hI (ex_X_ok adK adV A) (by decide +kernel) rfl (Nat.le_of_ble_eq_true rfl) rfl rfl ?_
  intro p e s m args below meth c E
  have iX3 : ∀ w ∈ u_ws RX3 TX3 8, w ∈ (Cond.code yX3_exchange cX3_exchange 5 (none) :: bigT) := fun w h => List.mem_cons_of_mem _ (uw_X3 w h)
  have key : ∀ n : Nat, (∀ (x1 : Int32) (x2 : Int32) (x3 : Int32) (v : jx_V), f_X3_exchange_L h0 n  x1 x2 x3 v = some v' → jx_J p l e rm_X3_exchange s m args below meth c D vwCl 67 cI cJ ad shX A 0 0 5 (MQ below (va_Qv (fun (_ : Unit) => True) (fun _ t => va_P D vwCl (jx_ws 67 cI cJ ad shX v') t.heap) A) args s 0 0 A) v 2 [(0, .ref (ad h0)), (1, .int x1), (2, .int x2), (3, .int x3)] []) := by
    intro n
    induction n with
    | zero =>
      exact (fun _ _ _ _ h => by cases h)
    | succ n ih =>
      intro x1 x2 x3 v hF
      rw [f_X3_exchange_L] at hF
      refine jx_iload_n E dX3_exchange_2 3 rfl ?_
      refine jx_iconst (x := 4) E dX3_exchange_3 (by decide) ?_
      refine jx_icmp_ge (tgt := 49) E dX3_exchange_4 (by decide) (fun hc1 => ?_) (fun hc1 => ?_)
      · rw [if_pos hc1] at hF
        obtain rfl := Option.some.inj hF
        exact jx_vret E dX3_exchange_49 rfl
      · rw [if_neg hc1] at hF
        refine jx_aload_n E dX3_exchange_7 0 rfl ?_
        refine jx_getr (C := RX3) (T := TX3) (M := 8) (k := 0) E dX3_exchange_8 (n_T0 hT0) (s_T0 hT0) rfl iX3 (by decide) rfl (List.mem_cons_of_mem _ tw_27) rfl ?_
        refine jx_iload_n E dX3_exchange_11 3 rfl ?_
        obtain ⟨hg2, hF⟩ := jx_guard hF
        refine jx_aald (h' := (h0 + 3 + (x3).toNatClampNeg)) E dX3_exchange_12 (n_T1 hT0) (s_T1 hT0) hg2 (l_Tr (t := h0) (l_lt hg2)) ?_
        refine jx_iload_n E dX3_exchange_13 1 rfl ?_
        obtain ⟨hg3, hF⟩ := jx_guard hF
        refine jx_iald (h := (h0 + 3 + (x3).toNatClampNeg)) (j := (Int32.toNatClampNeg x1)) E dX3_exchange_14 (n_Tr hT0 (l_lt hg2)) (s_Tr hT0 (l_lt hg2)) hg3 rfl ?_
        refine jx_istore (lv' := [(4, .int (v (h0 + 3 + (x3).toNatClampNeg) (Int32.toNatClampNeg x1))), (0, .ref (ad h0)), (1, .int x1), (2, .int x2), (3, .int x3)]) E dX3_exchange_15 (by decide) rfl ?_
        refine jx_aload_n E dX3_exchange_17 1 rfl ?_
        refine jx_getr (C := RX3) (T := TX3) (M := 8) (k := 0) E dX3_exchange_18 (n_T0 hT0) (s_T0 hT0) rfl iX3 (by decide) rfl (List.mem_cons_of_mem _ tw_27) rfl ?_
        refine jx_iload_n E dX3_exchange_21 4 rfl ?_
        obtain ⟨hg4, hF⟩ := jx_guard hF
        refine jx_aald (h' := (h0 + 3 + (x3).toNatClampNeg)) E dX3_exchange_22 (n_T1 hT0) (s_T1 hT0) hg4 (l_Tr (t := h0) (l_lt hg4)) ?_
        refine jx_iload_n E dX3_exchange_23 2 rfl ?_
        refine jx_aload_n E dX3_exchange_24 1 rfl ?_
        refine jx_getr (C := RX3) (T := TX3) (M := 8) (k := 0) E dX3_exchange_25 (n_T0 hT0) (s_T0 hT0) rfl iX3 (by decide) rfl (List.mem_cons_of_mem _ tw_27) rfl ?_
        refine jx_iload_n E dX3_exchange_28 4 rfl ?_
        obtain ⟨hg5, hF⟩ := jx_guard hF
        refine jx_aald (h' := (h0 + 3 + (x3).toNatClampNeg)) E dX3_exchange_29 (n_T1 hT0) (s_T1 hT0) hg5 (l_Tr (t := h0) (l_lt hg5)) ?_
        refine jx_iload_n E dX3_exchange_30 3 rfl ?_
        obtain ⟨hg6, hF⟩ := jx_guard hF
        refine jx_iald (h := (h0 + 3 + (x3).toNatClampNeg)) (j := (Int32.toNatClampNeg x2)) E dX3_exchange_31 (n_Tr hT0 (l_lt hg5)) (s_Tr hT0 (l_lt hg5)) hg6 rfl ?_
        obtain ⟨hg7, hF⟩ := jx_guard hF
        refine jx_iast (h := (h0 + 3 + (x3).toNatClampNeg)) (j := (Int32.toNatClampNeg x1)) E dX3_exchange_32 (n_Tr hT0 (l_lt hg4)) (s_Tr hT0 (l_lt hg4)) hg7 rfl ?_
        refine jx_aload_n E dX3_exchange_33 1 rfl ?_
        refine jx_getr (C := RX3) (T := TX3) (M := 8) (k := 0) E dX3_exchange_34 (n_T0 hT0) (s_T0 hT0) rfl iX3 (by decide) rfl (List.mem_cons_of_mem _ tw_27) rfl ?_
        refine jx_iload_n E dX3_exchange_37 4 rfl ?_
        obtain ⟨hg8, hF⟩ := jx_guard hF
        refine jx_aald (h' := (h0 + 3 + (x3).toNatClampNeg)) E dX3_exchange_38 (n_T1 hT0) (s_T1 hT0) hg8 (l_Tr (t := h0) (l_lt hg8)) ?_
        refine jx_iload_n E dX3_exchange_39 3 rfl ?_
        refine jx_iload E dX3_exchange_40 0 rfl ?_
        obtain ⟨hg9, hF⟩ := jx_guard hF
        refine jx_iast (h := (h0 + 3 + (x3).toNatClampNeg)) (j := (Int32.toNatClampNeg x2)) E dX3_exchange_42 (n_Tr hT0 (l_lt hg8)) (s_Tr hT0 (l_lt hg8)) hg9 rfl ?_
        refine jx_iinc (y := (x3 + 1)) (lv' := [(3, .int (x3 + 1)), (4, .int (v (h0 + 3 + (x3).toNatClampNeg) (Int32.toNatClampNeg x1))), (0, .ref (ad h0)), (1, .int x1), (2, .int x2)]) E dX3_exchange_43 4 rfl rfl (by decide) rfl ?_
        refine jx_goto (tgt := 2) E dX3_exchange_46 (by decide) ?_
        refine jx_sub [2, 3, 4, 0] rfl ?_
        exact ih x1 x2 (x3 + 1) (jx_up (jx_up v (h0 + 3 + (x3).toNatClampNeg) (Int32.toNatClampNeg x1) (v (h0 + 3 + (x3).toNatClampNeg) (Int32.toNatClampNeg x2))) (h0 + 3 + (x3).toNatClampNeg) (Int32.toNatClampNeg x2) (v (h0 + 3 + (x3).toNatClampNeg) (Int32.toNatClampNeg x1))) hF
  refine jx_iconst (x := 0) E dX3_exchange_0 (by decide) ?_
  refine jx_istore_n (lv' := [(3, .int 0), (0, .ref (ad h0)), (1, .int x1), (2, .int x2)]) E dX3_exchange_1 (by decide) rfl ?_
  refine jx_sub [1, 2, 3, 0] rfl ?_
  exact (key 100000) x1 x2 0 v hF
def f_X3_lower (h0 : Nat) (x1 : Int32) (v : jx_V) : Option (Int32 × jx_V) := (if (x1 < 0 ∨ 25 ≤ Int32.toNatClampNeg x1) then none else (if (v (h0 + 5) (Int32.toNatClampNeg x1)) ≤ 0 then (if (x1 < 0 ∨ 25 ≤ Int32.toNatClampNeg x1) then none else (if (x1 < 0 ∨ 25 ≤ Int32.toNatClampNeg x1) then none else (some (0, (jx_up v (h0 + 5) (Int32.toNatClampNeg x1) ((v (h0 + 5) (Int32.toNatClampNeg x1)) - 0)))))) else (if (x1 < 0 ∨ 25 ≤ Int32.toNatClampNeg x1) then none else (if (x1 < 0 ∨ 25 ≤ Int32.toNatClampNeg x1) then none else (some (1, (jx_up v (h0 + 5) (Int32.toNatClampNeg x1) ((v (h0 + 5) (Int32.toNatClampNeg x1)) - 1))))))))
def rm_X3_lower : Room := { frames := 0, cells := 0, slots := 0, locals := 0 }
set_option maxHeartbeats 4000000 in
set_option maxRecDepth 100000 in
theorem k_X3_lower {l : Launch} {D : va_G} {cI cJ : ClassId} {ad : Nat → Nat} {A : Nat → Prop} {adK adV : Nat → Nat} (hI : jx_inj 67 ad A) (h0 : Nat) (hT0 : jx_T h0) (x1 : Int32) (v : jx_V) (r : Int32) (v' : jx_V) (hF : f_X3_lower h0 x1 v = some (r, v')) : jx_Ci l D vwCl 67 cI cJ ad shX A (ex_X adK adV A) yX3_lower (Cond.code yX3_lower cX3_lower 3 (some .int) :: bigT) rm_X3_lower [.ref (ad h0), .int x1] v r v' := by
  unfold f_X3_lower at hF
  refine jx_enteri bigT RX3 cX3_lower 3 (some .int) [(0, .ref (ad h0)), (1, .int x1)] hI (ex_X_ok adK adV A) (by decide +kernel) rfl (Nat.le_of_ble_eq_true rfl) rfl rfl ?_
  intro p e s m args below meth c E
  have iX3 : ∀ w ∈ u_ws RX3 TX3 8, w ∈ (Cond.code yX3_lower cX3_lower 3 (some .int) :: bigT) := fun w h => List.mem_cons_of_mem _ (uw_X3 w h)
  refine jx_aload_n E dX3_lower_0 0 rfl ?_
  refine jx_getr (C := RX3) (T := TX3) (M := 8) (k := 0) E dX3_lower_1 (n_T0 hT0) (s_T0 hT0) rfl iX3 (by decide) rfl (List.mem_cons_of_mem _ tw_27) rfl ?_
  refine jx_iconst (x := 2) E dX3_lower_4 (by decide) ?_
  refine jx_aald (h' := (h0 + 5)) E dX3_lower_5 (n_T1 hT0) (s_T1 hT0) (show ¬ ((2 : Int32) < 0 ∨ 4 ≤ Int32.toNatClampNeg 2) by decide) rfl ?_
  refine jx_iload_n E dX3_lower_6 1 rfl ?_
  obtain ⟨hg1, hF⟩ := jx_guard hF
  refine jx_iald (h := (h0 + 5)) (j := (Int32.toNatClampNeg x1)) E dX3_lower_7 (n_T5 hT0) (s_T5 hT0) hg1 rfl ?_
  refine jx_if_le (tgt := 15) E dX3_lower_8 (by decide) (fun hc2 => ?_) (fun hc2 => ?_)
  · rw [if_pos hc2] at hF
    refine jx_iconst (x := 0) E dX3_lower_15 (by decide) ?_
    refine jx_istore_n (lv' := [(2, .int 0), (0, .ref (ad h0)), (1, .int x1)]) E dX3_lower_16 (by decide) rfl ?_
    refine jx_aload_n E dX3_lower_17 1 rfl ?_
    refine jx_getr (C := RX3) (T := TX3) (M := 8) (k := 0) E dX3_lower_18 (n_T0 hT0) (s_T0 hT0) rfl iX3 (by decide) rfl (List.mem_cons_of_mem _ tw_27) rfl ?_
    refine jx_iconst (x := 2) E dX3_lower_21 (by decide) ?_
    refine jx_aald (h' := (h0 + 5)) E dX3_lower_22 (n_T1 hT0) (s_T1 hT0) (show ¬ ((2 : Int32) < 0 ∨ 4 ≤ Int32.toNatClampNeg 2) by decide) rfl ?_
    refine jx_iload_n E dX3_lower_23 2 rfl ?_
    refine jx_dup2 E dX3_lower_24 rfl rfl ?_
    obtain ⟨hg3, hF⟩ := jx_guard hF
    refine jx_iald (h := (h0 + 5)) (j := (Int32.toNatClampNeg x1)) E dX3_lower_25 (n_T5 hT0) (s_T5 hT0) hg3 rfl ?_
    refine jx_iload_n E dX3_lower_26 0 rfl ?_
    refine jx_isub E dX3_lower_27 ?_
    obtain ⟨hg4, hF⟩ := jx_guard hF
    refine jx_iast (h := (h0 + 5)) (j := (Int32.toNatClampNeg x1)) E dX3_lower_28 (n_T5 hT0) (s_T5 hT0) hg4 rfl ?_
    refine jx_iload_n E dX3_lower_29 0 rfl ?_
    obtain ⟨rfl, rfl⟩ := jx_out hF
    exact jx_iret E dX3_lower_30 rfl
  · rw [if_neg hc2] at hF
    refine jx_iconst (x := 1) E dX3_lower_11 (by decide) ?_
    refine jx_goto (tgt := 16) E dX3_lower_12 (by decide) ?_
    refine jx_istore_n (lv' := [(2, .int 1), (0, .ref (ad h0)), (1, .int x1)]) E dX3_lower_16 (by decide) rfl ?_
    refine jx_aload_n E dX3_lower_17 1 rfl ?_
    refine jx_getr (C := RX3) (T := TX3) (M := 8) (k := 0) E dX3_lower_18 (n_T0 hT0) (s_T0 hT0) rfl iX3 (by decide) rfl (List.mem_cons_of_mem _ tw_27) rfl ?_
    refine jx_iconst (x := 2) E dX3_lower_21 (by decide) ?_
    refine jx_aald (h' := (h0 + 5)) E dX3_lower_22 (n_T1 hT0) (s_T1 hT0) (show ¬ ((2 : Int32) < 0 ∨ 4 ≤ Int32.toNatClampNeg 2) by decide) rfl ?_
    refine jx_iload_n E dX3_lower_23 2 rfl ?_
    refine jx_dup2 E dX3_lower_24 rfl rfl ?_
    obtain ⟨hg5, hF⟩ := jx_guard hF
    refine jx_iald (h := (h0 + 5)) (j := (Int32.toNatClampNeg x1)) E dX3_lower_25 (n_T5 hT0) (s_T5 hT0) hg5 rfl ?_
    refine jx_iload_n E dX3_lower_26 0 rfl ?_
    refine jx_isub E dX3_lower_27 ?_
    obtain ⟨hg6, hF⟩ := jx_guard hF
    refine jx_iast (h := (h0 + 5)) (j := (Int32.toNatClampNeg x1)) E dX3_lower_28 (n_T5 hT0) (s_T5 hT0) hg6 rfl ?_
    refine jx_iload_n E dX3_lower_29 0 rfl ?_
    obtain ⟨rfl, rfl⟩ := jx_out hF
    exact jx_iret E dX3_lower_30 rfl
def f_X3_growth (h0 : Nat) (x1 : Int32) (v : jx_V) : Option (Int32 × jx_V) := (if (x1 < 0 ∨ 25 ≤ Int32.toNatClampNeg x1) then none else (if (v (h0 + 3) (Int32.toNatClampNeg x1)) = 1 then (if ((v h0 6) - (v h0 6) / 4 * 4) = 3 then (some (1, v)) else (some (0, v))) else (if (v (h0 + 3) (Int32.toNatClampNeg x1)) = 3 then (if ((v h0 6) - (v h0 6) / 4 * 4) = 3 then (some (1, v)) else (if ((v h0 6) - (v h0 6) / 4 * 4) = 1 then (some (1, v)) else (some (0, v)))) else (some (0, v)))))
def rm_X3_growth : Room := { frames := 0, cells := 0, slots := 0, locals := 0 }
set_option maxHeartbeats 4000000 in
set_option maxRecDepth 100000 in
theorem k_X3_growth {l : Launch} {D : va_G} {cI cJ : ClassId} {ad : Nat → Nat} {A : Nat → Prop} {adK adV : Nat → Nat} (hI : jx_inj 67 ad A) (h0 : Nat) (hT0 : jx_T h0) (x1 : Int32) (v : jx_V) (r : Int32) (v' : jx_V) (hF : f_X3_growth h0 x1 v = some (r, v')) : jx_Ci l D vwCl 67 cI cJ ad shX A (ex_X adK adV A) yX3_growth (Cond.code yX3_growth cX3_growth 3 (some .int) :: bigT) rm_X3_growth [.ref (ad h0), .int x1] v r v' := by
  unfold f_X3_growth at hF
  refine jx_enteri bigT RX3 cX3_growth 3 (some .int) [(0, .ref (ad h0)), (1, .int x1)] hI (ex_X_ok adK adV A) (by decide +kernel) rfl (Nat.le_of_ble_eq_true rfl) rfl rfl ?_
  intro p e s m args below meth c E
  have iX3 : ∀ w ∈ u_ws RX3 TX3 8, w ∈ (Cond.code yX3_growth cX3_growth 3 (some .int) :: bigT) := fun w h => List.mem_cons_of_mem _ (uw_X3 w h)
  refine jx_aload_n E dX3_growth_0 0 rfl ?_
  refine jx_geti (C := RX3) (T := TX3) (M := 8) (k := 6) E dX3_growth_1 (n_T0 hT0) (s_T0 hT0) rfl iX3 (by decide) rfl (List.mem_cons_of_mem _ tw_28) rfl ?_
  refine jx_iconst (x := 4) E dX3_growth_4 (by decide) ?_
  refine jx_irem E dX3_growth_5 (by decide) ?_
  refine jx_istore_n (lv' := [(2, .int ((v h0 6) - (v h0 6) / 4 * 4)), (0, .ref (ad h0)), (1, .int x1)]) E dX3_growth_6 (by decide) rfl ?_
  refine jx_aload_n E dX3_growth_7 1 rfl ?_
  refine jx_getr (C := RX3) (T := TX3) (M := 8) (k := 0) E dX3_growth_8 (n_T0 hT0) (s_T0 hT0) rfl iX3 (by decide) rfl (List.mem_cons_of_mem _ tw_27) rfl ?_
  refine jx_iconst (x := 0) E dX3_growth_11 (by decide) ?_
  refine jx_aald (h' := (h0 + 3)) E dX3_growth_12 (n_T1 hT0) (s_T1 hT0) (show ¬ ((0 : Int32) < 0 ∨ 4 ≤ Int32.toNatClampNeg 0) by decide) rfl ?_
  refine jx_iload_n E dX3_growth_13 2 rfl ?_
  obtain ⟨hg1, hF⟩ := jx_guard hF
  refine jx_iald (h := (h0 + 3)) (j := (Int32.toNatClampNeg x1)) E dX3_growth_14 (n_T3 hT0) (s_T3 hT0) hg1 rfl ?_
  by_cases hc2 : (v (h0 + 3) (Int32.toNatClampNeg x1)) = 1
  · rw [if_pos hc2] at hF
    refine jx_lookup (tgt := 40) (off := 25) E dX3_growth_15 rfl (by rw [hc2]; rfl) (by decide) ?_
    refine jx_iload_n E dX3_growth_40 0 rfl ?_
    refine jx_iconst (x := 3) E dX3_growth_41 (by decide) ?_
    refine jx_icmp_ne (tgt := 49) E dX3_growth_42 (by decide) (fun hc3 => ?_) (fun hc3 => ?_)
    · rw [if_neg hc3] at hF
      refine jx_iconst (x := 0) E dX3_growth_49 (by decide) ?_
      obtain ⟨rfl, rfl⟩ := jx_out hF
      exact jx_iret E dX3_growth_50 rfl
    · rw [if_pos hc3] at hF
      refine jx_iconst (x := 1) E dX3_growth_45 (by decide) ?_
      refine jx_goto (tgt := 50) E dX3_growth_46 (by decide) ?_
      obtain ⟨rfl, rfl⟩ := jx_out hF
      exact jx_iret E dX3_growth_50 rfl
  rw [if_neg hc2] at hF
  by_cases hc4 : (v (h0 + 3) (Int32.toNatClampNeg x1)) = 3
  · rw [if_pos hc4] at hF
    refine jx_lookup (tgt := 51) (off := 36) E dX3_growth_15 rfl (by rw [hc4]; rfl) (by decide) ?_
    refine jx_iload_n E dX3_growth_51 0 rfl ?_
    refine jx_iconst (x := 3) E dX3_growth_52 (by decide) ?_
    refine jx_icmp_eq (tgt := 61) E dX3_growth_53 (by decide) (fun hc5 => ?_) (fun hc5 => ?_)
    · rw [if_pos hc5] at hF
      refine jx_iconst (x := 1) E dX3_growth_61 (by decide) ?_
      refine jx_goto (tgt := 66) E dX3_growth_62 (by decide) ?_
      obtain ⟨rfl, rfl⟩ := jx_out hF
      exact jx_iret E dX3_growth_66 rfl
    · rw [if_neg hc5] at hF
      refine jx_iload_n E dX3_growth_56 0 rfl ?_
      refine jx_iconst (x := 1) E dX3_growth_57 (by decide) ?_
      refine jx_icmp_ne (tgt := 65) E dX3_growth_58 (by decide) (fun hc6 => ?_) (fun hc6 => ?_)
      · rw [if_neg hc6] at hF
        refine jx_iconst (x := 0) E dX3_growth_65 (by decide) ?_
        obtain ⟨rfl, rfl⟩ := jx_out hF
        exact jx_iret E dX3_growth_66 rfl
      · rw [if_pos hc6] at hF
        refine jx_iconst (x := 1) E dX3_growth_61 (by decide) ?_
        refine jx_goto (tgt := 66) E dX3_growth_62 (by decide) ?_
        obtain ⟨rfl, rfl⟩ := jx_out hF
        exact jx_iret E dX3_growth_66 rfl
  rw [if_neg hc4] at hF
  refine jx_lookup (tgt := 67) (off := 52) E dX3_growth_15 rfl (by have hz2 := jx_ne hc2 (k := 1) (by decide); have hy2 : ¬ (1 : Int) = Int32.toInt (v (h0 + 3) (Int32.toNatClampNeg x1)) := fun q => hz2 q.symm; have hz4 := jx_ne hc4 (k := 3) (by decide); have hy4 : ¬ (3 : Int) = Int32.toInt (v (h0 + 3) (Int32.toNatClampNeg x1)) := fun q => hz4 q.symm; simp [Op.lookupswitch.offset, hz2, hy2, hz4, hy4]) (by decide) ?_
  refine jx_iconst (x := 0) E dX3_growth_67 (by decide) ?_
  obtain ⟨rfl, rfl⟩ := jx_out hF
  exact jx_iret E dX3_growth_68 rfl
def f_X3_growAll_L (h0 : Nat) : Nat → Int32 → jx_V → Option (jx_V)
  | 0, _, _ => none
  | n + 1, x1, v => (if 25 ≤ x1 then (some (jx_up v h0 6 ((v h0 6) + 1))) else ((f_X3_isTaken h0 x1 v).bind (fun (r2, v2) => (if r2 = 0 then (f_X3_growAll_L h0 n (x1 + 1) v2) else (if (x1 < 0 ∨ 25 ≤ Int32.toNatClampNeg x1) then none else ((f_X3_growth h0 x1 v2).bind (fun (r5, v5) => ((f_J9_min_7cf53 9 ((v2 (h0 + 5) (Int32.toNatClampNeg x1)) + r5) v5).bind (fun (r6, v6) => (if (x1 < 0 ∨ 25 ≤ Int32.toNatClampNeg x1) then none else (f_X3_growAll_L h0 n (x1 + 1) (jx_up v6 (h0 + 5) (Int32.toNatClampNeg x1) r6))))))))))))
def f_X3_growAll (h0 : Nat) (v : jx_V) : Option (jx_V) := (f_X3_growAll_L h0 100000 0 v)
def rm_X3_growAll : Room := { frames := 1, cells := 0, slots := 0, locals := 22 }
set_option maxHeartbeats 4000000 in
set_option maxRecDepth 100000 in
theorem k_X3_growAll {l : Launch} {D : va_G} {cI cJ : ClassId} {ad : Nat → Nat} {A : Nat → Prop} {adK adV : Nat → Nat} (hI : jx_inj 67 ad A) (h0 : Nat) (hT0 : jx_T h0) (v : jx_V) (v' : jx_V) (hF : f_X3_growAll h0 v = some v') : jx_Cv l D vwCl 67 cI cJ ad shX A (ex_X adK adV A) yX3_growAll (Cond.code yX3_growAll cX3_growAll 2 (none) :: bigT) rm_X3_growAll [.ref (ad h0)] v v' := by
  unfold f_X3_growAll at hF
  refine jx_enterv bigT RX3 cX3_growAll 2 (none) [(0, .ref (ad h0))] hI (ex_X_ok adK adV A) (by decide +kernel) rfl (Nat.le_of_ble_eq_true rfl) rfl rfl ?_
  intro p e s m args below meth c E
  have iX3 : ∀ w ∈ u_ws RX3 TX3 8, w ∈ (Cond.code yX3_growAll cX3_growAll 2 (none) :: bigT) := fun w h => List.mem_cons_of_mem _ (uw_X3 w h)
  have key : ∀ n : Nat, (∀ (x1 : Int32) (v : jx_V), f_X3_growAll_L h0 n  x1 v = some v' → jx_J p l e rm_X3_growAll s m args below meth c D vwCl 67 cI cJ ad shX A 0 0 2 (MQ below (va_Qv (fun (_ : Unit) => True) (fun _ t => va_P D vwCl (jx_ws 67 cI cJ ad shX v') t.heap) A) args s 0 0 A) v 2 [(0, .ref (ad h0)), (1, .int x1)] []) := by
    intro n
    induction n with
    | zero =>
      exact (fun _ _ h => by cases h)
    | succ n ih =>
      intro x1 v hF
      rw [f_X3_growAll_L] at hF
      refine jx_iload_n E dX3_growAll_2 1 rfl ?_
      refine jx_bipush (x := 25) E dX3_growAll_3 (by decide) ?_
      refine jx_icmp_ge (tgt := 49) E dX3_growAll_5 (by decide) (fun hc1 => ?_) (fun hc1 => ?_)
      · rw [if_pos hc1] at hF
        refine jx_aload_n E dX3_growAll_49 0 rfl ?_
        refine jx_dup E dX3_growAll_50 rfl ?_
        refine jx_geti (C := RX3) (T := TX3) (M := 8) (k := 6) E dX3_growAll_51 (n_T0 hT0) (s_T0 hT0) rfl iX3 (by decide) rfl (List.mem_cons_of_mem _ tw_28) rfl ?_
        refine jx_iconst (x := 1) E dX3_growAll_54 (by decide) ?_
        refine jx_iadd E dX3_growAll_55 ?_
        refine jx_puti (C := RX3) (T := TX3) (M := 8) (k := 6) (ty := .int) E tyX3 dX3_growAll_56 (n_T0 hT0) (s_T0 hT0) rfl iX3 (by decide) rfl (List.mem_cons_of_mem _ tw_28) tyX3_ok nmX3 rfl (by decide +kernel) rfl rfl rfl ?_
        obtain rfl := Option.some.inj hF
        exact jx_vret E dX3_growAll_59 rfl
      · rw [if_neg hc1] at hF
        refine jx_aload_n E dX3_growAll_8 0 rfl ?_
        refine jx_iload_n E dX3_growAll_9 1 rfl ?_
        obtain ⟨⟨r2, v2⟩, hc2, hF⟩ := jx_bind hF
        try dsimp only at hF
        refine jx_callVi (As := [.int x1]) (st := []) (h := h0) E dX3_growAll_10 1 rfl (k_X3_isTaken hI h0 hT0 x1 v r2 v2 hc2) (gb_V (List.mem_cons_of_mem _ tw_179) (List.mem_cons_of_mem _ tw_52) (List.mem_cons_of_mem _ tw_53) (List.mem_cons_of_mem _ tw_33) tw_51) rfl rfl rfl dd_X3_isTaken rfl (n_T0 hT0) (s_T0 hT0) rfl ⟨by decide, by decide⟩ ⟨Nat.le_refl 0, Nat.le_refl 0⟩ (Nat.le_of_ble_eq_true rfl) ?_
        refine jx_if_eq (tgt := 43) E dX3_growAll_13 (by decide) (fun hc3 => ?_) (fun hc3 => ?_)
        · rw [if_pos hc3] at hF
          refine jx_iinc (y := (x1 + 1)) (lv' := [(1, .int (x1 + 1)), (0, .ref (ad h0))]) E dX3_growAll_43 1 rfl rfl (by decide) rfl ?_
          refine jx_goto (tgt := 2) E dX3_growAll_46 (by decide) ?_
          refine jx_sub [1, 0] rfl ?_
          exact ih (x1 + 1) v2 hF
        · rw [if_neg hc3] at hF
          refine jx_aload_n E dX3_growAll_16 0 rfl ?_
          refine jx_getr (C := RX3) (T := TX3) (M := 8) (k := 0) E dX3_growAll_17 (n_T0 hT0) (s_T0 hT0) rfl iX3 (by decide) rfl (List.mem_cons_of_mem _ tw_27) rfl ?_
          refine jx_iconst (x := 2) E dX3_growAll_20 (by decide) ?_
          refine jx_aald (h' := (h0 + 5)) E dX3_growAll_21 (n_T1 hT0) (s_T1 hT0) (show ¬ ((2 : Int32) < 0 ∨ 4 ≤ Int32.toNatClampNeg 2) by decide) rfl ?_
          refine jx_iload_n E dX3_growAll_22 1 rfl ?_
          refine jx_bipush (x := 9) E dX3_growAll_23 (by decide) ?_
          refine jx_aload_n E dX3_growAll_25 0 rfl ?_
          refine jx_getr (C := RX3) (T := TX3) (M := 8) (k := 0) E dX3_growAll_26 (n_T0 hT0) (s_T0 hT0) rfl iX3 (by decide) rfl (List.mem_cons_of_mem _ tw_27) rfl ?_
          refine jx_iconst (x := 2) E dX3_growAll_29 (by decide) ?_
          refine jx_aald (h' := (h0 + 5)) E dX3_growAll_30 (n_T1 hT0) (s_T1 hT0) (show ¬ ((2 : Int32) < 0 ∨ 4 ≤ Int32.toNatClampNeg 2) by decide) rfl ?_
          refine jx_iload_n E dX3_growAll_31 1 rfl ?_
          obtain ⟨hg4, hF⟩ := jx_guard hF
          refine jx_iald (h := (h0 + 5)) (j := (Int32.toNatClampNeg x1)) E dX3_growAll_32 (n_T5 hT0) (s_T5 hT0) hg4 rfl ?_
          refine jx_aload_n E dX3_growAll_33 0 rfl ?_
          refine jx_iload_n E dX3_growAll_34 1 rfl ?_
          obtain ⟨⟨r5, v5⟩, hc5, hF⟩ := jx_bind hF
          try dsimp only at hF
          refine jx_callVi (As := [.int x1]) (st := [.int (v2 (h0 + 5) (Int32.toNatClampNeg x1)), .int 9, .int x1, .ref (ad (h0 + 5))]) (h := h0) E dX3_growAll_35 1 rfl (k_X3_growth hI h0 hT0 x1 v2 r5 v5 hc5) (gb_V (List.mem_cons_of_mem _ tw_181) (List.mem_cons_of_mem _ tw_182) (List.mem_cons_of_mem _ tw_183) (List.mem_cons_of_mem _ tw_33) tw_180) rfl rfl rfl dd_X3_growth rfl (n_T0 hT0) (s_T0 hT0) rfl ⟨by decide, by decide⟩ ⟨Nat.le_refl 0, Nat.le_refl 0⟩ (Nat.le_of_ble_eq_true rfl) ?_
          refine jx_iadd E dX3_growAll_38 ?_
          obtain ⟨⟨r6, v6⟩, hc6, hF⟩ := jx_bind hF
          try dsimp only at hF
          refine jx_callTi (As := [.int 9, .int ((v2 (h0 + 5) (Int32.toNatClampNeg x1)) + r5)]) (st := [.int x1, .ref (ad (h0 + 5))]) E dX3_growAll_39 2 rfl (k_J9_min_7cf53 hI 9 ((v2 (h0 + 5) (Int32.toNatClampNeg x1)) + r5) v5 r6 v6 hc6) (gb_N tw_34) rfl rfl rfl (List.mem_cons_of_mem _ tw_35) (List.mem_cons_of_mem _ tw_36) (List.mem_cons_of_mem _ tw_37) dd_J9_min_7cf53.2 rfl ⟨by decide, by decide⟩ ⟨Nat.le_refl 0, Nat.le_refl 0⟩ (Nat.le_of_ble_eq_true rfl) ?_
          obtain ⟨hg7, hF⟩ := jx_guard hF
          refine jx_iast (h := (h0 + 5)) (j := (Int32.toNatClampNeg x1)) E dX3_growAll_42 (n_T5 hT0) (s_T5 hT0) hg7 rfl ?_
          refine jx_iinc (y := (x1 + 1)) (lv' := [(1, .int (x1 + 1)), (0, .ref (ad h0))]) E dX3_growAll_43 1 rfl rfl (by decide) rfl ?_
          refine jx_goto (tgt := 2) E dX3_growAll_46 (by decide) ?_
          refine jx_sub [1, 0] rfl ?_
          exact ih (x1 + 1) (jx_up v6 (h0 + 5) (Int32.toNatClampNeg x1) r6) hF
  refine jx_iconst (x := 0) E dX3_growAll_0 (by decide) ?_
  refine jx_istore_n (lv' := [(1, .int 0), (0, .ref (ad h0))]) E dX3_growAll_1 (by decide) rfl ?_
  refine jx_sub [1, 0] rfl ?_
  exact (key 100000) 0 v hF
def f_X3_draw (h0 : Nat) (v : jx_V) : Option (Int32 × jx_V) := (some ((Int32.toUInt32 ((jx_up v h0 7 (((v h0 7) * 1103515245) + 12345)) h0 7) >>> (Int32.toUInt32 8 &&& Int32.toUInt32 31)).toInt32, (jx_up v h0 7 (((v h0 7) * 1103515245) + 12345))))
def rm_X3_draw : Room := { frames := 0, cells := 0, slots := 0, locals := 0 }
set_option maxHeartbeats 4000000 in
set_option maxRecDepth 100000 in
theorem k_X3_draw {l : Launch} {D : va_G} {cI cJ : ClassId} {ad : Nat → Nat} {A : Nat → Prop} {adK adV : Nat → Nat} (hI : jx_inj 67 ad A) (h0 : Nat) (hT0 : jx_T h0) (v : jx_V) (r : Int32) (v' : jx_V) (hF : f_X3_draw h0 v = some (r, v')) : jx_Ci l D vwCl 67 cI cJ ad shX A (ex_X adK adV A) yX3_draw (Cond.code yX3_draw cX3_draw 1 (some .int) :: bigT) rm_X3_draw [.ref (ad h0)] v r v' := by
  unfold f_X3_draw at hF
  refine jx_enteri bigT RX3 cX3_draw 1 (some .int) [(0, .ref (ad h0))] hI (ex_X_ok adK adV A) (by decide +kernel) rfl (Nat.le_of_ble_eq_true rfl) rfl rfl ?_
  intro p e s m args below meth c E
  have iX3 : ∀ w ∈ u_ws RX3 TX3 8, w ∈ (Cond.code yX3_draw cX3_draw 1 (some .int) :: bigT) := fun w h => List.mem_cons_of_mem _ (uw_X3 w h)
  refine jx_aload_n E dX3_draw_0 0 rfl ?_
  refine jx_aload_n E dX3_draw_1 0 rfl ?_
  refine jx_geti (C := RX3) (T := TX3) (M := 8) (k := 7) E dX3_draw_2 (n_T0 hT0) (s_T0 hT0) rfl iX3 (by decide) rfl (List.mem_cons_of_mem _ tw_178) rfl ?_
  refine jx_ldc (x := 1103515245) E dX3_draw_5 (List.mem_cons_of_mem _ tw_184) ?_
  refine jx_imul E dX3_draw_7 ?_
  refine jx_sipush (x := 12345) E dX3_draw_8 (by decide) ?_
  refine jx_iadd E dX3_draw_11 ?_
  refine jx_puti (C := RX3) (T := TX3) (M := 8) (k := 7) (ty := .int) E tyX3 dX3_draw_12 (n_T0 hT0) (s_T0 hT0) rfl iX3 (by decide) rfl (List.mem_cons_of_mem _ tw_178) tyX3_ok nmX3 rfl (by decide +kernel) rfl rfl rfl ?_
  refine jx_aload_n E dX3_draw_15 0 rfl ?_
  refine jx_geti (C := RX3) (T := TX3) (M := 8) (k := 7) E dX3_draw_16 (n_T0 hT0) (s_T0 hT0) rfl iX3 (by decide) rfl (List.mem_cons_of_mem _ tw_178) rfl ?_
  refine jx_bipush (x := 8) E dX3_draw_19 (by decide) ?_
  refine jx_iushr E dX3_draw_21 ?_
  obtain ⟨rfl, rfl⟩ := jx_out hF
  exact jx_iret E dX3_draw_22 rfl
def f_X3_lotOfThing_L (h0 : Nat) : Nat → Int32 → Int32 → Int32 → jx_V → Option (Int32 × jx_V)
  | 0, _, _, _, _ => none
  | n + 1, x1, x2, x3, v => (if 25 ≤ x3 then (some ((-1), v)) else ((f_X3_isTaken h0 x3 v).bind (fun (r2, v2) => (if r2 = 0 then (f_X3_lotOfThing_L h0 n x1 x2 (x3 + 1) v2) else (if x2 = 0 then (some (x3, v2)) else (f_X3_lotOfThing_L h0 n x1 (x2 + (-1)) (x3 + 1) v2))))))
def f_X3_lotOfThing (h0 : Nat) (x1 : Int32) (v : jx_V) : Option (Int32 × jx_V) := (f_X3_lotOfThing_L h0 100000 x1 x1 0 v)
def rm_X3_lotOfThing : Room := { frames := 1, cells := 0, slots := 0, locals := 21 }
set_option maxHeartbeats 4000000 in
set_option maxRecDepth 100000 in
theorem k_X3_lotOfThing {l : Launch} {D : va_G} {cI cJ : ClassId} {ad : Nat → Nat} {A : Nat → Prop} {adK adV : Nat → Nat} (hI : jx_inj 67 ad A) (h0 : Nat) (hT0 : jx_T h0) (x1 : Int32) (v : jx_V) (r : Int32) (v' : jx_V) (hF : f_X3_lotOfThing h0 x1 v = some (r, v')) : jx_Ci l D vwCl 67 cI cJ ad shX A (ex_X adK adV A) yX3_lotOfThing (Cond.code yX3_lotOfThing cX3_lotOfThing 4 (some .int) :: bigT) rm_X3_lotOfThing [.ref (ad h0), .int x1] v r v' := by
  unfold f_X3_lotOfThing at hF
  refine jx_enteri bigT RX3 cX3_lotOfThing 4 (some .int) [(0, .ref (ad h0)), (1, .int x1)] hI (ex_X_ok adK adV A) (by decide +kernel) rfl (Nat.le_of_ble_eq_true rfl) rfl rfl ?_
  intro p e s m args below meth c E
  have key : ∀ n : Nat, (∀ (x1 : Int32) (x2 : Int32) (x3 : Int32) (v : jx_V), f_X3_lotOfThing_L h0 n  x1 x2 x3 v = some (r, v') → jx_J p l e rm_X3_lotOfThing s m args below meth c D vwCl 67 cI cJ ad shX A 0 0 4 (MQ below (va_Qi (fun (r1 : Int32) (_ : Unit) => r1 = r) (fun _ t => va_P D vwCl (jx_ws 67 cI cJ ad shX v') t.heap) A) args s 0 0 A) v 4 [(0, .ref (ad h0)), (1, .int x1), (2, .int x2), (3, .int x3)] []) := by
    intro n
    induction n with
    | zero =>
      exact (fun _ _ _ _ h => by cases h)
    | succ n ih =>
      intro x1 x2 x3 v hF
      rw [f_X3_lotOfThing_L] at hF
      refine jx_iload_n E dX3_lotOfThing_4 3 rfl ?_
      refine jx_bipush (x := 25) E dX3_lotOfThing_5 (by decide) ?_
      refine jx_icmp_ge (tgt := 33) E dX3_lotOfThing_7 (by decide) (fun hc1 => ?_) (fun hc1 => ?_)
      · rw [if_pos hc1] at hF
        refine jx_iconst (x := -1) E dX3_lotOfThing_33 (by decide) ?_
        obtain ⟨rfl, rfl⟩ := jx_out hF
        exact jx_iret E dX3_lotOfThing_34 rfl
      · rw [if_neg hc1] at hF
        refine jx_aload_n E dX3_lotOfThing_10 0 rfl ?_
        refine jx_iload_n E dX3_lotOfThing_11 3 rfl ?_
        obtain ⟨⟨r2, v2⟩, hc2, hF⟩ := jx_bind hF
        try dsimp only at hF
        refine jx_callVi (As := [.int x3]) (st := []) (h := h0) E dX3_lotOfThing_12 1 rfl (k_X3_isTaken hI h0 hT0 x3 v r2 v2 hc2) (gb_V (List.mem_cons_of_mem _ tw_179) (List.mem_cons_of_mem _ tw_52) (List.mem_cons_of_mem _ tw_53) (List.mem_cons_of_mem _ tw_33) tw_51) rfl rfl rfl dd_X3_isTaken rfl (n_T0 hT0) (s_T0 hT0) rfl ⟨by decide, by decide⟩ ⟨Nat.le_refl 0, Nat.le_refl 0⟩ (Nat.le_of_ble_eq_true rfl) ?_
        refine jx_if_eq (tgt := 27) E dX3_lotOfThing_15 (by decide) (fun hc3 => ?_) (fun hc3 => ?_)
        · rw [if_pos hc3] at hF
          refine jx_iinc (y := (x3 + 1)) (lv' := [(3, .int (x3 + 1)), (0, .ref (ad h0)), (1, .int x1), (2, .int x2)]) E dX3_lotOfThing_27 3 rfl rfl (by decide) rfl ?_
          refine jx_goto (tgt := 4) E dX3_lotOfThing_30 (by decide) ?_
          refine jx_sub [1, 2, 3, 0] rfl ?_
          exact ih x1 x2 (x3 + 1) v2 hF
        · rw [if_neg hc3] at hF
          refine jx_iload_n E dX3_lotOfThing_18 2 rfl ?_
          refine jx_if_ne (tgt := 24) E dX3_lotOfThing_19 (by decide) (fun hc4 => ?_) (fun hc4 => ?_)
          · rw [if_neg hc4] at hF
            refine jx_iinc (y := (x2 + (-1))) (lv' := [(2, .int (x2 + (-1))), (0, .ref (ad h0)), (1, .int x1), (3, .int x3)]) E dX3_lotOfThing_24 2 rfl rfl (by decide) rfl ?_
            refine jx_iinc (y := (x3 + 1)) (lv' := [(3, .int (x3 + 1)), (2, .int (x2 + (-1))), (0, .ref (ad h0)), (1, .int x1)]) E dX3_lotOfThing_27 3 rfl rfl (by decide) rfl ?_
            refine jx_goto (tgt := 4) E dX3_lotOfThing_30 (by decide) ?_
            refine jx_sub [2, 3, 1, 0] rfl ?_
            exact ih x1 (x2 + (-1)) (x3 + 1) v2 hF
          · rw [if_pos hc4] at hF
            refine jx_iload_n E dX3_lotOfThing_22 3 rfl ?_
            obtain ⟨rfl, rfl⟩ := jx_out hF
            exact jx_iret E dX3_lotOfThing_23 rfl
  refine jx_iload_n E dX3_lotOfThing_0 1 rfl ?_
  refine jx_istore_n (lv' := [(2, .int x1), (0, .ref (ad h0)), (1, .int x1)]) E dX3_lotOfThing_1 (by decide) rfl ?_
  refine jx_iconst (x := 0) E dX3_lotOfThing_2 (by decide) ?_
  refine jx_istore_n (lv' := [(3, .int 0), (2, .int x1), (0, .ref (ad h0)), (1, .int x1)]) E dX3_lotOfThing_3 (by decide) rfl ?_
  refine jx_sub [2, 3, 1, 0] rfl ?_
  exact (key 100000) x1 x1 0 v hF
def f_X3_thingCount_L (h0 : Nat) : Nat → Int32 → Int32 → jx_V → Option (Int32 × jx_V)
  | 0, _, _, _ => none
  | n + 1, x1, x2, v => (if 25 ≤ x2 then (some (x1, v)) else ((f_X3_isTaken h0 x2 v).bind (fun (r2, v2) => (if r2 = 0 then (f_X3_thingCount_L h0 n (x1 + 0) (x2 + 1) v2) else (f_X3_thingCount_L h0 n (x1 + 1) (x2 + 1) v2)))))
def f_X3_thingCount (h0 : Nat) (v : jx_V) : Option (Int32 × jx_V) := (f_X3_thingCount_L h0 100000 0 0 v)
def rm_X3_thingCount : Room := { frames := 1, cells := 0, slots := 0, locals := 21 }
set_option maxHeartbeats 4000000 in
set_option maxRecDepth 100000 in
theorem k_X3_thingCount {l : Launch} {D : va_G} {cI cJ : ClassId} {ad : Nat → Nat} {A : Nat → Prop} {adK adV : Nat → Nat} (hI : jx_inj 67 ad A) (h0 : Nat) (hT0 : jx_T h0) (v : jx_V) (r : Int32) (v' : jx_V) (hF : f_X3_thingCount h0 v = some (r, v')) : jx_Ci l D vwCl 67 cI cJ ad shX A (ex_X adK adV A) yX3_thingCount (Cond.code yX3_thingCount cX3_thingCount 3 (some .int) :: bigT) rm_X3_thingCount [.ref (ad h0)] v r v' := by
  unfold f_X3_thingCount at hF
  refine jx_enteri bigT RX3 cX3_thingCount 3 (some .int) [(0, .ref (ad h0))] hI (ex_X_ok adK adV A) (by decide +kernel) rfl (Nat.le_of_ble_eq_true rfl) rfl rfl ?_
  intro p e s m args below meth c E
  have key : ∀ n : Nat, (∀ (x1 : Int32) (x2 : Int32) (v : jx_V), f_X3_thingCount_L h0 n  x1 x2 v = some (r, v') → jx_J p l e rm_X3_thingCount s m args below meth c D vwCl 67 cI cJ ad shX A 0 0 3 (MQ below (va_Qi (fun (r1 : Int32) (_ : Unit) => r1 = r) (fun _ t => va_P D vwCl (jx_ws 67 cI cJ ad shX v') t.heap) A) args s 0 0 A) v 4 [(0, .ref (ad h0)), (1, .int x1), (2, .int x2)] []) := by
    intro n
    induction n with
    | zero =>
      exact (fun _ _ _ h => by cases h)
    | succ n ih =>
      intro x1 x2 v hF
      rw [f_X3_thingCount_L] at hF
      refine jx_iload_n E dX3_thingCount_4 2 rfl ?_
      refine jx_bipush (x := 25) E dX3_thingCount_5 (by decide) ?_
      refine jx_icmp_ge (tgt := 32) E dX3_thingCount_7 (by decide) (fun hc1 => ?_) (fun hc1 => ?_)
      · rw [if_pos hc1] at hF
        refine jx_iload_n E dX3_thingCount_32 1 rfl ?_
        obtain ⟨rfl, rfl⟩ := jx_out hF
        exact jx_iret E dX3_thingCount_33 rfl
      · rw [if_neg hc1] at hF
        refine jx_iload_n E dX3_thingCount_10 1 rfl ?_
        refine jx_aload_n E dX3_thingCount_11 0 rfl ?_
        refine jx_iload_n E dX3_thingCount_12 2 rfl ?_
        obtain ⟨⟨r2, v2⟩, hc2, hF⟩ := jx_bind hF
        try dsimp only at hF
        refine jx_callVi (As := [.int x2]) (st := [.int x1]) (h := h0) E dX3_thingCount_13 1 rfl (k_X3_isTaken hI h0 hT0 x2 v r2 v2 hc2) (gb_V (List.mem_cons_of_mem _ tw_179) (List.mem_cons_of_mem _ tw_52) (List.mem_cons_of_mem _ tw_53) (List.mem_cons_of_mem _ tw_33) tw_51) rfl rfl rfl dd_X3_isTaken rfl (n_T0 hT0) (s_T0 hT0) rfl ⟨by decide, by decide⟩ ⟨Nat.le_refl 0, Nat.le_refl 0⟩ (Nat.le_of_ble_eq_true rfl) ?_
        refine jx_if_eq (tgt := 23) E dX3_thingCount_16 (by decide) (fun hc3 => ?_) (fun hc3 => ?_)
        · rw [if_pos hc3] at hF
          refine jx_iconst (x := 0) E dX3_thingCount_23 (by decide) ?_
          refine jx_iadd E dX3_thingCount_24 ?_
          refine jx_istore_n (lv' := [(1, .int (x1 + 0)), (0, .ref (ad h0)), (2, .int x2)]) E dX3_thingCount_25 (by decide) rfl ?_
          refine jx_iinc (y := (x2 + 1)) (lv' := [(2, .int (x2 + 1)), (1, .int (x1 + 0)), (0, .ref (ad h0))]) E dX3_thingCount_26 2 rfl rfl (by decide) rfl ?_
          refine jx_goto (tgt := 4) E dX3_thingCount_29 (by decide) ?_
          refine jx_sub [2, 1, 0] rfl ?_
          exact ih (x1 + 0) (x2 + 1) v2 hF
        · rw [if_neg hc3] at hF
          refine jx_iconst (x := 1) E dX3_thingCount_19 (by decide) ?_
          refine jx_goto (tgt := 24) E dX3_thingCount_20 (by decide) ?_
          refine jx_iadd E dX3_thingCount_24 ?_
          refine jx_istore_n (lv' := [(1, .int (x1 + 1)), (0, .ref (ad h0)), (2, .int x2)]) E dX3_thingCount_25 (by decide) rfl ?_
          refine jx_iinc (y := (x2 + 1)) (lv' := [(2, .int (x2 + 1)), (1, .int (x1 + 1)), (0, .ref (ad h0))]) E dX3_thingCount_26 2 rfl rfl (by decide) rfl ?_
          refine jx_goto (tgt := 4) E dX3_thingCount_29 (by decide) ?_
          refine jx_sub [2, 1, 0] rfl ?_
          exact ih (x1 + 1) (x2 + 1) v2 hF
  refine jx_iconst (x := 0) E dX3_thingCount_0 (by decide) ?_
  refine jx_istore_n (lv' := [(1, .int 0), (0, .ref (ad h0))]) E dX3_thingCount_1 (by decide) rfl ?_
  refine jx_iconst (x := 0) E dX3_thingCount_2 (by decide) ?_
  refine jx_istore_n (lv' := [(2, .int 0), (1, .int 0), (0, .ref (ad h0))]) E dX3_thingCount_3 (by decide) rfl ?_
  refine jx_sub [2, 1, 0] rfl ?_
  exact (key 100000) 0 0 v hF
def f_X3_heightOfAll_L (h0 : Nat) : Nat → Int32 → Int32 → jx_V → Option (Int32 × jx_V)
  | 0, _, _, _ => none
  | n + 1, x1, x2, v => (if 25 ≤ x2 then (some (x1, v)) else ((f_X3_isTaken h0 x2 v).bind (fun (r2, v2) => (if r2 = 0 then (f_X3_heightOfAll_L h0 n (x1 + 0) (x2 + 1) v2) else (if (x2 < 0 ∨ 25 ≤ Int32.toNatClampNeg x2) then none else (f_X3_heightOfAll_L h0 n (x1 + (v2 (h0 + 5) (Int32.toNatClampNeg x2))) (x2 + 1) v2))))))
def f_X3_heightOfAll (h0 : Nat) (v : jx_V) : Option (Int32 × jx_V) := (f_X3_heightOfAll_L h0 100000 0 0 v)
def rm_X3_heightOfAll : Room := { frames := 1, cells := 0, slots := 0, locals := 21 }
set_option maxHeartbeats 4000000 in
set_option maxRecDepth 100000 in
theorem k_X3_heightOfAll {l : Launch} {D : va_G} {cI cJ : ClassId} {ad : Nat → Nat} {A : Nat → Prop} {adK adV : Nat → Nat} (hI : jx_inj 67 ad A) (h0 : Nat) (hT0 : jx_T h0) (v : jx_V) (r : Int32) (v' : jx_V) (hF : f_X3_heightOfAll h0 v = some (r, v')) : jx_Ci l D vwCl 67 cI cJ ad shX A (ex_X adK adV A) yX3_heightOfAll (Cond.code yX3_heightOfAll cX3_heightOfAll 3 (some .int) :: bigT) rm_X3_heightOfAll [.ref (ad h0)] v r v' := by
  unfold f_X3_heightOfAll at hF
  refine jx_enteri bigT RX3 cX3_heightOfAll 3 (some .int) [(0, .ref (ad h0))] hI (ex_X_ok adK adV A) (by decide +kernel) rfl (Nat.le_of_ble_eq_true rfl) rfl rfl ?_
  intro p e s m args below meth c E
  have iX3 : ∀ w ∈ u_ws RX3 TX3 8, w ∈ (Cond.code yX3_heightOfAll cX3_heightOfAll 3 (some .int) :: bigT) := fun w h => List.mem_cons_of_mem _ (uw_X3 w h)
  have key : ∀ n : Nat, (∀ (x1 : Int32) (x2 : Int32) (v : jx_V), f_X3_heightOfAll_L h0 n  x1 x2 v = some (r, v') → jx_J p l e rm_X3_heightOfAll s m args below meth c D vwCl 67 cI cJ ad shX A 0 0 3 (MQ below (va_Qi (fun (r1 : Int32) (_ : Unit) => r1 = r) (fun _ t => va_P D vwCl (jx_ws 67 cI cJ ad shX v') t.heap) A) args s 0 0 A) v 4 [(0, .ref (ad h0)), (1, .int x1), (2, .int x2)] []) := by
    intro n
    induction n with
    | zero =>
      exact (fun _ _ _ h => by cases h)
    | succ n ih =>
      intro x1 x2 v hF
      rw [f_X3_heightOfAll_L] at hF
      refine jx_iload_n E dX3_heightOfAll_4 2 rfl ?_
      refine jx_bipush (x := 25) E dX3_heightOfAll_5 (by decide) ?_
      refine jx_icmp_ge (tgt := 39) E dX3_heightOfAll_7 (by decide) (fun hc1 => ?_) (fun hc1 => ?_)
      · rw [if_pos hc1] at hF
        refine jx_iload_n E dX3_heightOfAll_39 1 rfl ?_
        obtain ⟨rfl, rfl⟩ := jx_out hF
        exact jx_iret E dX3_heightOfAll_40 rfl
      · rw [if_neg hc1] at hF
        refine jx_iload_n E dX3_heightOfAll_10 1 rfl ?_
        refine jx_aload_n E dX3_heightOfAll_11 0 rfl ?_
        refine jx_iload_n E dX3_heightOfAll_12 2 rfl ?_
        obtain ⟨⟨r2, v2⟩, hc2, hF⟩ := jx_bind hF
        try dsimp only at hF
        refine jx_callVi (As := [.int x2]) (st := [.int x1]) (h := h0) E dX3_heightOfAll_13 1 rfl (k_X3_isTaken hI h0 hT0 x2 v r2 v2 hc2) (gb_V (List.mem_cons_of_mem _ tw_179) (List.mem_cons_of_mem _ tw_52) (List.mem_cons_of_mem _ tw_53) (List.mem_cons_of_mem _ tw_33) tw_51) rfl rfl rfl dd_X3_isTaken rfl (n_T0 hT0) (s_T0 hT0) rfl ⟨by decide, by decide⟩ ⟨Nat.le_refl 0, Nat.le_refl 0⟩ (Nat.le_of_ble_eq_true rfl) ?_
        refine jx_if_eq (tgt := 30) E dX3_heightOfAll_16 (by decide) (fun hc3 => ?_) (fun hc3 => ?_)
        · rw [if_pos hc3] at hF
          refine jx_iconst (x := 0) E dX3_heightOfAll_30 (by decide) ?_
          refine jx_iadd E dX3_heightOfAll_31 ?_
          refine jx_istore_n (lv' := [(1, .int (x1 + 0)), (0, .ref (ad h0)), (2, .int x2)]) E dX3_heightOfAll_32 (by decide) rfl ?_
          refine jx_iinc (y := (x2 + 1)) (lv' := [(2, .int (x2 + 1)), (1, .int (x1 + 0)), (0, .ref (ad h0))]) E dX3_heightOfAll_33 2 rfl rfl (by decide) rfl ?_
          refine jx_goto (tgt := 4) E dX3_heightOfAll_36 (by decide) ?_
          refine jx_sub [2, 1, 0] rfl ?_
          exact ih (x1 + 0) (x2 + 1) v2 hF
        · rw [if_neg hc3] at hF
          refine jx_aload_n E dX3_heightOfAll_19 0 rfl ?_
          refine jx_getr (C := RX3) (T := TX3) (M := 8) (k := 0) E dX3_heightOfAll_20 (n_T0 hT0) (s_T0 hT0) rfl iX3 (by decide) rfl (List.mem_cons_of_mem _ tw_27) rfl ?_
          refine jx_iconst (x := 2) E dX3_heightOfAll_23 (by decide) ?_
          refine jx_aald (h' := (h0 + 5)) E dX3_heightOfAll_24 (n_T1 hT0) (s_T1 hT0) (show ¬ ((2 : Int32) < 0 ∨ 4 ≤ Int32.toNatClampNeg 2) by decide) rfl ?_
          refine jx_iload_n E dX3_heightOfAll_25 2 rfl ?_
          obtain ⟨hg4, hF⟩ := jx_guard hF
          refine jx_iald (h := (h0 + 5)) (j := (Int32.toNatClampNeg x2)) E dX3_heightOfAll_26 (n_T5 hT0) (s_T5 hT0) hg4 rfl ?_
          refine jx_goto (tgt := 31) E dX3_heightOfAll_27 (by decide) ?_
          refine jx_iadd E dX3_heightOfAll_31 ?_
          refine jx_istore_n (lv' := [(1, .int (x1 + (v2 (h0 + 5) (Int32.toNatClampNeg x2)))), (0, .ref (ad h0)), (2, .int x2)]) E dX3_heightOfAll_32 (by decide) rfl ?_
          refine jx_iinc (y := (x2 + 1)) (lv' := [(2, .int (x2 + 1)), (1, .int (x1 + (v2 (h0 + 5) (Int32.toNatClampNeg x2)))), (0, .ref (ad h0))]) E dX3_heightOfAll_33 2 rfl rfl (by decide) rfl ?_
          refine jx_goto (tgt := 4) E dX3_heightOfAll_36 (by decide) ?_
          refine jx_sub [2, 1, 0] rfl ?_
          exact ih (x1 + (v2 (h0 + 5) (Int32.toNatClampNeg x2))) (x2 + 1) v2 hF
  refine jx_iconst (x := 0) E dX3_heightOfAll_0 (by decide) ?_
  refine jx_istore_n (lv' := [(1, .int 0), (0, .ref (ad h0))]) E dX3_heightOfAll_1 (by decide) rfl ?_
  refine jx_iconst (x := 0) E dX3_heightOfAll_2 (by decide) ?_
  refine jx_istore_n (lv' := [(2, .int 0), (1, .int 0), (0, .ref (ad h0))]) E dX3_heightOfAll_3 (by decide) rfl ?_
  refine jx_sub [2, 1, 0] rfl ?_
  exact (key 100000) 0 0 v hF
def f_X3_contractCount_L (h0 : Nat) : Nat → Int32 → Int32 → jx_V → Option (Int32 × jx_V)
  | 0, _, _, _ => none
  | n + 1, x1, x2, v => (if (v h0 5) ≤ x2 then (some (x1, v)) else (if (x2 < 0 ∨ 10 ≤ Int32.toNatClampNeg x2) then none else (if (v (h0 + 11) (Int32.toNatClampNeg x2)) < 0 then (f_X3_contractCount_L h0 n (x1 + 0) (x2 + 1) v) else (f_X3_contractCount_L h0 n (x1 + 1) (x2 + 1) v))))
def f_X3_contractCount (h0 : Nat) (v : jx_V) : Option (Int32 × jx_V) := (f_X3_contractCount_L h0 100000 0 0 v)
def rm_X3_contractCount : Room := { frames := 0, cells := 0, slots := 0, locals := 0 }
set_option maxHeartbeats 4000000 in
set_option maxRecDepth 100000 in
theorem k_X3_contractCount {l : Launch} {D : va_G} {cI cJ : ClassId} {ad : Nat → Nat} {A : Nat → Prop} {adK adV : Nat → Nat} (hI : jx_inj 67 ad A) (h0 : Nat) (hT0 : jx_T h0) (v : jx_V) (r : Int32) (v' : jx_V) (hF : f_X3_contractCount h0 v = some (r, v')) : jx_Ci l D vwCl 67 cI cJ ad shX A (ex_X adK adV A) yX3_contractCount (Cond.code yX3_contractCount cX3_contractCount 3 (some .int) :: bigT) rm_X3_contractCount [.ref (ad h0)] v r v' := by
  unfold f_X3_contractCount at hF
  refine jx_enteri bigT RX3 cX3_contractCount 3 (some .int) [(0, .ref (ad h0))] hI (ex_X_ok adK adV A) (by decide +kernel) rfl (Nat.le_of_ble_eq_true rfl) rfl rfl ?_
  intro p e s m args below meth c E
  have iX3 : ∀ w ∈ u_ws RX3 TX3 8, w ∈ (Cond.code yX3_contractCount cX3_contractCount 3 (some .int) :: bigT) := fun w h => List.mem_cons_of_mem _ (uw_X3 w h)
  have key : ∀ n : Nat, (∀ (x1 : Int32) (x2 : Int32) (v : jx_V), f_X3_contractCount_L h0 n  x1 x2 v = some (r, v') → jx_J p l e rm_X3_contractCount s m args below meth c D vwCl 67 cI cJ ad shX A 0 0 3 (MQ below (va_Qi (fun (r1 : Int32) (_ : Unit) => r1 = r) (fun _ t => va_P D vwCl (jx_ws 67 cI cJ ad shX v') t.heap) A) args s 0 0 A) v 4 [(0, .ref (ad h0)), (1, .int x1), (2, .int x2)] []) := by
    intro n
    induction n with
    | zero =>
      exact (fun _ _ _ h => by cases h)
    | succ n ih =>
      intro x1 x2 v hF
      rw [f_X3_contractCount_L] at hF
      refine jx_iload_n E dX3_contractCount_4 2 rfl ?_
      refine jx_aload_n E dX3_contractCount_5 0 rfl ?_
      refine jx_geti (C := RX3) (T := TX3) (M := 8) (k := 5) E dX3_contractCount_6 (n_T0 hT0) (s_T0 hT0) rfl iX3 (by decide) rfl (List.mem_cons_of_mem _ tw_140) rfl ?_
      refine jx_icmp_ge (tgt := 37) E dX3_contractCount_9 (by decide) (fun hc1 => ?_) (fun hc1 => ?_)
      · rw [if_pos hc1] at hF
        refine jx_iload_n E dX3_contractCount_37 1 rfl ?_
        obtain ⟨rfl, rfl⟩ := jx_out hF
        exact jx_iret E dX3_contractCount_38 rfl
      · rw [if_neg hc1] at hF
        refine jx_iload_n E dX3_contractCount_12 1 rfl ?_
        refine jx_aload_n E dX3_contractCount_13 0 rfl ?_
        refine jx_getr (C := RX3) (T := TX3) (M := 8) (k := 1) E dX3_contractCount_14 (n_T0 hT0) (s_T0 hT0) rfl iX3 (by decide) rfl (List.mem_cons_of_mem _ tw_141) rfl ?_
        refine jx_iconst (x := 4) E dX3_contractCount_17 (by decide) ?_
        refine jx_aald (h' := (h0 + 11)) E dX3_contractCount_18 (n_T2 hT0) (s_T2 hT0) (show ¬ ((4 : Int32) < 0 ∨ 6 ≤ Int32.toNatClampNeg 4) by decide) rfl ?_
        refine jx_iload_n E dX3_contractCount_19 2 rfl ?_
        obtain ⟨hg2, hF⟩ := jx_guard hF
        refine jx_iald (h := (h0 + 11)) (j := (Int32.toNatClampNeg x2)) E dX3_contractCount_20 (n_T11 hT0) (s_T11 hT0) hg2 rfl ?_
        refine jx_if_lt (tgt := 28) E dX3_contractCount_21 (by decide) (fun hc3 => ?_) (fun hc3 => ?_)
        · rw [if_pos hc3] at hF
          refine jx_iconst (x := 0) E dX3_contractCount_28 (by decide) ?_
          refine jx_iadd E dX3_contractCount_29 ?_
          refine jx_istore_n (lv' := [(1, .int (x1 + 0)), (0, .ref (ad h0)), (2, .int x2)]) E dX3_contractCount_30 (by decide) rfl ?_
          refine jx_iinc (y := (x2 + 1)) (lv' := [(2, .int (x2 + 1)), (1, .int (x1 + 0)), (0, .ref (ad h0))]) E dX3_contractCount_31 2 rfl rfl (by decide) rfl ?_
          refine jx_goto (tgt := 4) E dX3_contractCount_34 (by decide) ?_
          refine jx_sub [2, 1, 0] rfl ?_
          exact ih (x1 + 0) (x2 + 1) v hF
        · rw [if_neg hc3] at hF
          refine jx_iconst (x := 1) E dX3_contractCount_24 (by decide) ?_
          refine jx_goto (tgt := 29) E dX3_contractCount_25 (by decide) ?_
          refine jx_iadd E dX3_contractCount_29 ?_
          refine jx_istore_n (lv' := [(1, .int (x1 + 1)), (0, .ref (ad h0)), (2, .int x2)]) E dX3_contractCount_30 (by decide) rfl ?_
          refine jx_iinc (y := (x2 + 1)) (lv' := [(2, .int (x2 + 1)), (1, .int (x1 + 1)), (0, .ref (ad h0))]) E dX3_contractCount_31 2 rfl rfl (by decide) rfl ?_
          refine jx_goto (tgt := 4) E dX3_contractCount_34 (by decide) ?_
          refine jx_sub [2, 1, 0] rfl ?_
          exact ih (x1 + 1) (x2 + 1) v hF
  refine jx_iconst (x := 0) E dX3_contractCount_0 (by decide) ?_
  refine jx_istore_n (lv' := [(1, .int 0), (0, .ref (ad h0))]) E dX3_contractCount_1 (by decide) rfl ?_
  refine jx_iconst (x := 0) E dX3_contractCount_2 (by decide) ?_
  refine jx_istore_n (lv' := [(2, .int 0), (1, .int 0), (0, .ref (ad h0))]) E dX3_contractCount_3 (by decide) rfl ?_
  refine jx_sub [2, 1, 0] rfl ?_
  exact (key 100000) 0 0 v hF
def f_X3_spotsInUse_L (h0 : Nat) : Nat → Int32 → Int32 → jx_V → Option (Int32 × jx_V)
  | 0, _, _, _ => none
  | n + 1, x1, x2, v => (if 10 ≤ x2 then (some (x1, v)) else (if (x2 < 0 ∨ 10 ≤ Int32.toNatClampNeg x2) then none else (if (v (h0 + 15) (Int32.toNatClampNeg x2)) < 0 then (f_X3_spotsInUse_L h0 n (x1 + 0) (x2 + 1) v) else (f_X3_spotsInUse_L h0 n (x1 + 1) (x2 + 1) v))))
def f_X3_spotsInUse (h0 : Nat) (v : jx_V) : Option (Int32 × jx_V) := (f_X3_spotsInUse_L h0 100000 0 0 v)
def rm_X3_spotsInUse : Room := { frames := 0, cells := 0, slots := 0, locals := 0 }
set_option maxHeartbeats 4000000 in
set_option maxRecDepth 100000 in
theorem k_X3_spotsInUse {l : Launch} {D : va_G} {cI cJ : ClassId} {ad : Nat → Nat} {A : Nat → Prop} {adK adV : Nat → Nat} (hI : jx_inj 67 ad A) (h0 : Nat) (hT0 : jx_T h0) (v : jx_V) (r : Int32) (v' : jx_V) (hF : f_X3_spotsInUse h0 v = some (r, v')) : jx_Ci l D vwCl 67 cI cJ ad shX A (ex_X adK adV A) yX3_spotsInUse (Cond.code yX3_spotsInUse cX3_spotsInUse 3 (some .int) :: bigT) rm_X3_spotsInUse [.ref (ad h0)] v r v' := by
  unfold f_X3_spotsInUse at hF
  refine jx_enteri bigT RX3 cX3_spotsInUse 3 (some .int) [(0, .ref (ad h0))] hI (ex_X_ok adK adV A) (by decide +kernel) rfl (Nat.le_of_ble_eq_true rfl) rfl rfl ?_
  intro p e s m args below meth c E
  have iX3 : ∀ w ∈ u_ws RX3 TX3 8, w ∈ (Cond.code yX3_spotsInUse cX3_spotsInUse 3 (some .int) :: bigT) := fun w h => List.mem_cons_of_mem _ (uw_X3 w h)
  have key : ∀ n : Nat, (∀ (x1 : Int32) (x2 : Int32) (v : jx_V), f_X3_spotsInUse_L h0 n  x1 x2 v = some (r, v') → jx_J p l e rm_X3_spotsInUse s m args below meth c D vwCl 67 cI cJ ad shX A 0 0 3 (MQ below (va_Qi (fun (r1 : Int32) (_ : Unit) => r1 = r) (fun _ t => va_P D vwCl (jx_ws 67 cI cJ ad shX v') t.heap) A) args s 0 0 A) v 4 [(0, .ref (ad h0)), (1, .int x1), (2, .int x2)] []) := by
    intro n
    induction n with
    | zero =>
      exact (fun _ _ _ h => by cases h)
    | succ n ih =>
      intro x1 x2 v hF
      rw [f_X3_spotsInUse_L] at hF
      refine jx_iload_n E dX3_spotsInUse_4 2 rfl ?_
      refine jx_bipush (x := 10) E dX3_spotsInUse_5 (by decide) ?_
      refine jx_icmp_ge (tgt := 33) E dX3_spotsInUse_7 (by decide) (fun hc1 => ?_) (fun hc1 => ?_)
      · rw [if_pos hc1] at hF
        refine jx_iload_n E dX3_spotsInUse_33 1 rfl ?_
        obtain ⟨rfl, rfl⟩ := jx_out hF
        exact jx_iret E dX3_spotsInUse_34 rfl
      · rw [if_neg hc1] at hF
        refine jx_iload_n E dX3_spotsInUse_10 1 rfl ?_
        refine jx_aload_n E dX3_spotsInUse_11 0 rfl ?_
        refine jx_getr (C := RX3) (T := TX3) (M := 8) (k := 4) E dX3_spotsInUse_12 (n_T0 hT0) (s_T0 hT0) rfl iX3 (by decide) rfl (List.mem_cons_of_mem _ tw_177) rfl ?_
        refine jx_iload_n E dX3_spotsInUse_15 2 rfl ?_
        obtain ⟨hg2, hF⟩ := jx_guard hF
        refine jx_iald (h := (h0 + 15)) (j := (Int32.toNatClampNeg x2)) E dX3_spotsInUse_16 (n_T15 hT0) (s_T15 hT0) hg2 rfl ?_
        refine jx_if_lt (tgt := 24) E dX3_spotsInUse_17 (by decide) (fun hc3 => ?_) (fun hc3 => ?_)
        · rw [if_pos hc3] at hF
          refine jx_iconst (x := 0) E dX3_spotsInUse_24 (by decide) ?_
          refine jx_iadd E dX3_spotsInUse_25 ?_
          refine jx_istore_n (lv' := [(1, .int (x1 + 0)), (0, .ref (ad h0)), (2, .int x2)]) E dX3_spotsInUse_26 (by decide) rfl ?_
          refine jx_iinc (y := (x2 + 1)) (lv' := [(2, .int (x2 + 1)), (1, .int (x1 + 0)), (0, .ref (ad h0))]) E dX3_spotsInUse_27 2 rfl rfl (by decide) rfl ?_
          refine jx_goto (tgt := 4) E dX3_spotsInUse_30 (by decide) ?_
          refine jx_sub [2, 1, 0] rfl ?_
          exact ih (x1 + 0) (x2 + 1) v hF
        · rw [if_neg hc3] at hF
          refine jx_iconst (x := 1) E dX3_spotsInUse_20 (by decide) ?_
          refine jx_goto (tgt := 25) E dX3_spotsInUse_21 (by decide) ?_
          refine jx_iadd E dX3_spotsInUse_25 ?_
          refine jx_istore_n (lv' := [(1, .int (x1 + 1)), (0, .ref (ad h0)), (2, .int x2)]) E dX3_spotsInUse_26 (by decide) rfl ?_
          refine jx_iinc (y := (x2 + 1)) (lv' := [(2, .int (x2 + 1)), (1, .int (x1 + 1)), (0, .ref (ad h0))]) E dX3_spotsInUse_27 2 rfl rfl (by decide) rfl ?_
          refine jx_goto (tgt := 4) E dX3_spotsInUse_30 (by decide) ?_
          refine jx_sub [2, 1, 0] rfl ?_
          exact ih (x1 + 1) (x2 + 1) v hF
  refine jx_iconst (x := 0) E dX3_spotsInUse_0 (by decide) ?_
  refine jx_istore_n (lv' := [(1, .int 0), (0, .ref (ad h0))]) E dX3_spotsInUse_1 (by decide) rfl ?_
  refine jx_iconst (x := 0) E dX3_spotsInUse_2 (by decide) ?_
  refine jx_istore_n (lv' := [(2, .int 0), (1, .int 0), (0, .ref (ad h0))]) E dX3_spotsInUse_3 (by decide) rfl ?_
  refine jx_sub [2, 1, 0] rfl ?_
  exact (key 100000) 0 0 v hF
def f_X4_within (x0 : Int32) (x1 : Int32) (v : jx_V) : Option (Int32 × jx_V) := (if x0 < 0 then (some (0, v)) else (if x1 ≤ x0 then (some (0, v)) else (some (1, v))))
def rm_X4_within : Room := { frames := 0, cells := 0, slots := 0, locals := 0 }
set_option maxHeartbeats 4000000 in
set_option maxRecDepth 100000 in
theorem k_X4_within {l : Launch} {D : va_G} {cI cJ : ClassId} {ad : Nat → Nat} {A : Nat → Prop} {adK adV : Nat → Nat} (hI : jx_inj 67 ad A) (x0 : Int32) (x1 : Int32) (v : jx_V) (r : Int32) (v' : jx_V) (hF : f_X4_within x0 x1 v = some (r, v')) : jx_Ci l D vwCl 67 cI cJ ad shX A (ex_X adK adV A) yX4_within (Cond.code yX4_within cX4_within 2 (some .boolean) :: bigT) rm_X4_within [.int x0, .int x1] v r v' := by
  unfold f_X4_within at hF
  refine jx_enteri bigT RX4 cX4_within 2 (some .boolean) [(0, .int x0), (1, .int x1)] hI (ex_X_ok adK adV A) (by decide +kernel) rfl (Nat.le_of_ble_eq_true rfl) rfl rfl ?_
  intro p e s m args below meth c E
  refine jx_iload_n E dX4_within_0 0 rfl ?_
  refine jx_if_lt (tgt := 13) E dX4_within_1 (by decide) (fun hc1 => ?_) (fun hc1 => ?_)
  · rw [if_pos hc1] at hF
    refine jx_iconst (x := 0) E dX4_within_13 (by decide) ?_
    obtain ⟨rfl, rfl⟩ := jx_out hF
    exact jx_zret E dX4_within_14 rfl (Or.inl rfl)
  · rw [if_neg hc1] at hF
    refine jx_iload_n E dX4_within_4 0 rfl ?_
    refine jx_iload_n E dX4_within_5 1 rfl ?_
    refine jx_icmp_ge (tgt := 13) E dX4_within_6 (by decide) (fun hc2 => ?_) (fun hc2 => ?_)
    · rw [if_pos hc2] at hF
      refine jx_iconst (x := 0) E dX4_within_13 (by decide) ?_
      obtain ⟨rfl, rfl⟩ := jx_out hF
      exact jx_zret E dX4_within_14 rfl (Or.inl rfl)
    · rw [if_neg hc2] at hF
      refine jx_iconst (x := 1) E dX4_within_9 (by decide) ?_
      refine jx_goto (tgt := 14) E dX4_within_10 (by decide) ?_
      obtain ⟨rfl, rfl⟩ := jx_out hF
      exact jx_zret E dX4_within_14 rfl (Or.inr rfl)
def f_X4_finding (x1 : Int32) (v : jx_V) : Option (Int32 × jx_V) := (if (x1 < 0 ∨ 7 ≤ Int32.toNatClampNeg x1) then none else (if (x1 < 0 ∨ 7 ≤ Int32.toNatClampNeg x1) then none else (some (((-1000001) - x1), (jx_up v 63 (Int32.toNatClampNeg x1) ((v 63 (Int32.toNatClampNeg x1)) + 1))))))
def rm_X4_finding : Room := { frames := 0, cells := 0, slots := 0, locals := 0 }
set_option maxHeartbeats 4000000 in
set_option maxRecDepth 100000 in
theorem k_X4_finding {l : Launch} {D : va_G} {cI cJ : ClassId} {ad : Nat → Nat} {A : Nat → Prop} {adK adV : Nat → Nat} (hI : jx_inj 67 ad A) (x1 : Int32) (v : jx_V) (r : Int32) (v' : jx_V) (hF : f_X4_finding x1 v = some (r, v')) : jx_Ci l D vwCl 67 cI cJ ad shX A (ex_X adK adV A) yX4_finding (Cond.code yX4_finding cX4_finding 2 (some .int) :: bigT) rm_X4_finding [.ref (ad 0), .int x1] v r v' := by
  unfold f_X4_finding at hF
  refine jx_enteri bigT RX4 cX4_finding 2 (some .int) [(0, .ref (ad 0)), (1, .int x1)] hI (ex_X_ok adK adV A) (by decide +kernel) rfl (Nat.le_of_ble_eq_true rfl) rfl rfl ?_
  intro p e s m args below meth c E
  have iX4 : ∀ w ∈ u_ws RX4 TX4 11, w ∈ (Cond.code yX4_finding cX4_finding 2 (some .int) :: bigT) := fun w h => List.mem_cons_of_mem _ (uw_X4 w h)
  refine jx_aload_n E dX4_finding_0 0 rfl ?_
  refine jx_getr (C := RX4) (T := TX4) (M := 11) (k := 6) E dX4_finding_1 (Nat.le_of_ble_eq_true rfl) s_X0 rfl iX4 (by decide) rfl (List.mem_cons_of_mem _ tw_185) rfl ?_
  refine jx_iload_n E dX4_finding_4 1 rfl ?_
  refine jx_dup2 E dX4_finding_5 rfl rfl ?_
  obtain ⟨hg1, hF⟩ := jx_guard hF
  refine jx_iald (h := 63) (j := (Int32.toNatClampNeg x1)) E dX4_finding_6 (Nat.le_of_ble_eq_true rfl) s_X63 hg1 rfl ?_
  refine jx_iconst (x := 1) E dX4_finding_7 (by decide) ?_
  refine jx_iadd E dX4_finding_8 ?_
  obtain ⟨hg2, hF⟩ := jx_guard hF
  refine jx_iast (h := 63) (j := (Int32.toNatClampNeg x1)) E dX4_finding_9 (Nat.le_of_ble_eq_true rfl) s_X63 hg2 rfl ?_
  refine jx_ldcw (x := -1000001) E dX4_finding_10 (List.mem_cons_of_mem _ tw_186) ?_
  refine jx_iload_n E dX4_finding_13 1 rfl ?_
  refine jx_isub E dX4_finding_14 ?_
  obtain ⟨rfl, rfl⟩ := jx_out hF
  exact jx_iret E dX4_finding_15 rfl
def f_X4_build (x1 : Int32) (x2 : Int32) (x3 : Int32) (x4 : Int32) (v : jx_V) : Option (Int32 × jx_V) := ((f_X4_within x1 7 v).bind (fun (r1, v1) => (if r1 = 0 then ((f_X4_finding 0 v1).bind (fun (r3, v3) => (some (r3, v3)))) else ((f_X4_within x2 25 v1).bind (fun (r4, v4) => (if r4 = 0 then ((f_X4_finding 0 v4).bind (fun (r6, v6) => (some (r6, v6)))) else ((f_X4_within x3 4 v4).bind (fun (r7, v7) => (if r7 = 0 then ((f_X4_finding 0 v7).bind (fun (r9, v9) => (some (r9, v9)))) else ((f_X4_within x4 10 v7).bind (fun (r10, v10) => (if r10 = 0 then ((f_X4_finding 0 v10).bind (fun (r17, v17) => (some (r17, v17)))) else ((f_X3_isTaken 1 x2 v10).bind (fun (r12, v12) => (if r12 = 0 then ((f_X3_put 1 x2 x1 x3 x4 0 v12).bind (fun v14 => ((f_X3_thingCount 1 v14).bind (fun (r15, v15) => (some (r15, v15)))))) else ((f_X4_finding 4 v12).bind (fun (r16, v16) => (some (r16, v16)))))))))))))))))))
def rm_X4_build : Room := { frames := 2, cells := 0, slots := 0, locals := 43 }
set_option maxHeartbeats 4000000 in
set_option maxRecDepth 100000 in
theorem k_X4_build {l : Launch} {D : va_G} {cI cJ : ClassId} {ad : Nat → Nat} {A : Nat → Prop} {adK adV : Nat → Nat} (hI : jx_inj 67 ad A) (x1 : Int32) (x2 : Int32) (x3 : Int32) (x4 : Int32) (v : jx_V) (r : Int32) (v' : jx_V) (hF : f_X4_build x1 x2 x3 x4 v = some (r, v')) : jx_Ci l D vwCl 67 cI cJ ad shX A (ex_X adK adV A) yX4_build (Cond.code yX4_build cX4_build 5 (some .int) :: bigT) rm_X4_build [.ref (ad 0), .int x1, .int x2, .int x3, .int x4] v r v' := by
  unfold f_X4_build at hF
  refine jx_enteri bigT RX4 cX4_build 5 (some .int) [(0, .ref (ad 0)), (1, .int x1), (2, .int x2), (3, .int x3), (4, .int x4)] hI (ex_X_ok adK adV A) (by decide +kernel) rfl (Nat.le_of_ble_eq_true rfl) rfl rfl ?_
  intro p e s m args below meth c E
  have iX4 : ∀ w ∈ u_ws RX4 TX4 11, w ∈ (Cond.code yX4_build cX4_build 5 (some .int) :: bigT) := fun w h => List.mem_cons_of_mem _ (uw_X4 w h)
  refine jx_iload_n E dX4_build_0 1 rfl ?_
  refine jx_bipush (x := 7) E dX4_build_1 (by decide) ?_
  obtain ⟨⟨r1, v1⟩, hc1, hF⟩ := jx_bind hF
  try dsimp only at hF
  refine jx_callSi (As := [.int x1, .int 7]) (st := []) E dX4_build_3 2 rfl (k_X4_within hI x1 7 v r1 v1 hc1) (gb_S (List.mem_cons_of_mem _ tw_188) (List.mem_cons_of_mem _ tw_189) (List.mem_cons_of_mem _ tw_190) tw_187) rfl rfl rfl dd_X4_within rfl ⟨by decide, by decide⟩ ⟨Nat.le_refl 0, Nat.le_refl 0⟩ (Nat.le_of_ble_eq_true rfl) ?_
  refine jx_if_eq (tgt := 36) E dX4_build_6 (by decide) (fun hc2 => ?_) (fun hc2 => ?_)
  · rw [if_pos hc2] at hF
    refine jx_aload_n E dX4_build_36 0 rfl ?_
    refine jx_iconst (x := 0) E dX4_build_37 (by decide) ?_
    obtain ⟨⟨r3, v3⟩, hc3, hF⟩ := jx_bind hF
    try dsimp only at hF
    refine jx_callVi (As := [.int 0]) (st := []) (h := 0) E dX4_build_38 1 rfl (k_X4_finding hI 0 v1 r3 v3 hc3) (gb_V (List.mem_cons_of_mem _ tw_192) (List.mem_cons_of_mem _ tw_193) (List.mem_cons_of_mem _ tw_194) (List.mem_cons_of_mem _ tw_190) tw_191) rfl rfl rfl dd_X4_finding rfl (Nat.le_of_ble_eq_true rfl) s_X0 rfl ⟨by decide, by decide⟩ ⟨Nat.le_refl 0, Nat.le_refl 0⟩ (Nat.le_of_ble_eq_true rfl) ?_
    obtain ⟨rfl, rfl⟩ := jx_out hF
    exact jx_iret E dX4_build_41 rfl
  · rw [if_neg hc2] at hF
    refine jx_iload_n E dX4_build_9 2 rfl ?_
    refine jx_bipush (x := 25) E dX4_build_10 (by decide) ?_
    obtain ⟨⟨r4, v4⟩, hc4, hF⟩ := jx_bind hF
    try dsimp only at hF
    refine jx_callSi (As := [.int x2, .int 25]) (st := []) E dX4_build_12 2 rfl (k_X4_within hI x2 25 v1 r4 v4 hc4) (gb_S (List.mem_cons_of_mem _ tw_188) (List.mem_cons_of_mem _ tw_189) (List.mem_cons_of_mem _ tw_190) tw_187) rfl rfl rfl dd_X4_within rfl ⟨by decide, by decide⟩ ⟨Nat.le_refl 0, Nat.le_refl 0⟩ (Nat.le_of_ble_eq_true rfl) ?_
    refine jx_if_eq (tgt := 36) E dX4_build_15 (by decide) (fun hc5 => ?_) (fun hc5 => ?_)
    · rw [if_pos hc5] at hF
      refine jx_aload_n E dX4_build_36 0 rfl ?_
      refine jx_iconst (x := 0) E dX4_build_37 (by decide) ?_
      obtain ⟨⟨r6, v6⟩, hc6, hF⟩ := jx_bind hF
      try dsimp only at hF
      refine jx_callVi (As := [.int 0]) (st := []) (h := 0) E dX4_build_38 1 rfl (k_X4_finding hI 0 v4 r6 v6 hc6) (gb_V (List.mem_cons_of_mem _ tw_192) (List.mem_cons_of_mem _ tw_193) (List.mem_cons_of_mem _ tw_194) (List.mem_cons_of_mem _ tw_190) tw_191) rfl rfl rfl dd_X4_finding rfl (Nat.le_of_ble_eq_true rfl) s_X0 rfl ⟨by decide, by decide⟩ ⟨Nat.le_refl 0, Nat.le_refl 0⟩ (Nat.le_of_ble_eq_true rfl) ?_
      obtain ⟨rfl, rfl⟩ := jx_out hF
      exact jx_iret E dX4_build_41 rfl
    · rw [if_neg hc5] at hF
      refine jx_iload_n E dX4_build_18 3 rfl ?_
      refine jx_iconst (x := 4) E dX4_build_19 (by decide) ?_
      obtain ⟨⟨r7, v7⟩, hc7, hF⟩ := jx_bind hF
      try dsimp only at hF
      refine jx_callSi (As := [.int x3, .int 4]) (st := []) E dX4_build_20 2 rfl (k_X4_within hI x3 4 v4 r7 v7 hc7) (gb_S (List.mem_cons_of_mem _ tw_188) (List.mem_cons_of_mem _ tw_189) (List.mem_cons_of_mem _ tw_190) tw_187) rfl rfl rfl dd_X4_within rfl ⟨by decide, by decide⟩ ⟨Nat.le_refl 0, Nat.le_refl 0⟩ (Nat.le_of_ble_eq_true rfl) ?_
      refine jx_if_eq (tgt := 36) E dX4_build_23 (by decide) (fun hc8 => ?_) (fun hc8 => ?_)
      · rw [if_pos hc8] at hF
        refine jx_aload_n E dX4_build_36 0 rfl ?_
        refine jx_iconst (x := 0) E dX4_build_37 (by decide) ?_
        obtain ⟨⟨r9, v9⟩, hc9, hF⟩ := jx_bind hF
        try dsimp only at hF
        refine jx_callVi (As := [.int 0]) (st := []) (h := 0) E dX4_build_38 1 rfl (k_X4_finding hI 0 v7 r9 v9 hc9) (gb_V (List.mem_cons_of_mem _ tw_192) (List.mem_cons_of_mem _ tw_193) (List.mem_cons_of_mem _ tw_194) (List.mem_cons_of_mem _ tw_190) tw_191) rfl rfl rfl dd_X4_finding rfl (Nat.le_of_ble_eq_true rfl) s_X0 rfl ⟨by decide, by decide⟩ ⟨Nat.le_refl 0, Nat.le_refl 0⟩ (Nat.le_of_ble_eq_true rfl) ?_
        obtain ⟨rfl, rfl⟩ := jx_out hF
        exact jx_iret E dX4_build_41 rfl
      · rw [if_neg hc8] at hF
        refine jx_iload E dX4_build_26 4 rfl ?_
        refine jx_bipush (x := 10) E dX4_build_28 (by decide) ?_
        obtain ⟨⟨r10, v10⟩, hc10, hF⟩ := jx_bind hF
        try dsimp only at hF
        refine jx_callSi (As := [.int x4, .int 10]) (st := []) E dX4_build_30 2 rfl (k_X4_within hI x4 10 v7 r10 v10 hc10) (gb_S (List.mem_cons_of_mem _ tw_188) (List.mem_cons_of_mem _ tw_189) (List.mem_cons_of_mem _ tw_190) tw_187) rfl rfl rfl dd_X4_within rfl ⟨by decide, by decide⟩ ⟨Nat.le_refl 0, Nat.le_refl 0⟩ (Nat.le_of_ble_eq_true rfl) ?_
        refine jx_if_ne (tgt := 42) E dX4_build_33 (by decide) (fun hc11 => ?_) (fun hc11 => ?_)
        · rw [if_neg hc11] at hF
          refine jx_aload_n E dX4_build_42 0 rfl ?_
          refine jx_getr (C := RX4) (T := TX4) (M := 11) (k := 0) E dX4_build_43 (Nat.le_of_ble_eq_true rfl) s_X0 rfl iX4 (by decide) rfl (List.mem_cons_of_mem _ tw_195) rfl ?_
          refine jx_iload_n E dX4_build_46 2 rfl ?_
          obtain ⟨⟨r12, v12⟩, hc12, hF⟩ := jx_bind hF
          try dsimp only at hF
          refine jx_callNi (As := [.int x2]) (st := []) (h := 1) E dX4_build_47 1 rfl (k_X3_isTaken hI 1 jx_T1 x2 v10 r12 v12 hc12) (gb_N tw_51) rfl rfl rfl (ex_m4 (jx_ex E)) (List.mem_cons_of_mem _ tw_33) (List.mem_cons_of_mem _ tw_52) (List.mem_cons_of_mem _ tw_53) dd_X3_isTaken.2 rfl (Nat.le_of_ble_eq_true rfl) s_X1 rfl ⟨by decide, by decide⟩ ⟨Nat.le_refl 0, Nat.le_refl 0⟩ (Nat.le_of_ble_eq_true rfl) ?_
          refine jx_if_eq (tgt := 59) E dX4_build_50 (by decide) (fun hc13 => ?_) (fun hc13 => ?_)
          · rw [if_pos hc13] at hF
            refine jx_aload_n E dX4_build_59 0 rfl ?_
            refine jx_getr (C := RX4) (T := TX4) (M := 11) (k := 0) E dX4_build_60 (Nat.le_of_ble_eq_true rfl) s_X0 rfl iX4 (by decide) rfl (List.mem_cons_of_mem _ tw_195) rfl ?_
            refine jx_iload_n E dX4_build_63 2 rfl ?_
            refine jx_iload_n E dX4_build_64 1 rfl ?_
            refine jx_iload_n E dX4_build_65 3 rfl ?_
            refine jx_iload E dX4_build_66 4 rfl ?_
            refine jx_iconst (x := 0) E dX4_build_68 (by decide) ?_
            obtain ⟨v14, hc14, hF⟩ := jx_bind hF
            try dsimp only at hF
            refine jx_callNv (As := [.int x2, .int x1, .int x3, .int x4, .int 0]) (st := []) (h := 1) E dX4_build_69 5 rfl (k_X3_put hI 1 jx_T1 x2 x1 x3 x4 0 v12 v14 hc14) (gb_N tw_137) rfl rfl rfl (ex_m5 (jx_ex E)) (List.mem_cons_of_mem _ tw_33) (List.mem_cons_of_mem _ tw_138) (List.mem_cons_of_mem _ tw_139) dd_X3_put.2 rfl (Nat.le_of_ble_eq_true rfl) s_X1 rfl ⟨by decide, by decide⟩ ⟨Nat.le_refl 0, Nat.le_refl 0⟩ (Nat.le_of_ble_eq_true rfl) ?_
            refine jx_aload_n E dX4_build_72 0 rfl ?_
            refine jx_getr (C := RX4) (T := TX4) (M := 11) (k := 0) E dX4_build_73 (Nat.le_of_ble_eq_true rfl) s_X0 rfl iX4 (by decide) rfl (List.mem_cons_of_mem _ tw_195) rfl ?_
            obtain ⟨⟨r15, v15⟩, hc15, hF⟩ := jx_bind hF
            try dsimp only at hF
            refine jx_callNi (As := []) (st := []) (h := 1) E dX4_build_76 0 rfl (k_X3_thingCount hI 1 jx_T1 v14 r15 v15 hc15) (gb_N tw_196) rfl rfl rfl (ex_m6 (jx_ex E)) (List.mem_cons_of_mem _ tw_33) (List.mem_cons_of_mem _ tw_197) (List.mem_cons_of_mem _ tw_198) dd_X3_thingCount.2 rfl (Nat.le_of_ble_eq_true rfl) s_X1 rfl ⟨by decide, by decide⟩ ⟨Nat.le_refl 0, Nat.le_refl 0⟩ (Nat.le_of_ble_eq_true rfl) ?_
            obtain ⟨rfl, rfl⟩ := jx_out hF
            exact jx_iret E dX4_build_79 rfl
          · rw [if_neg hc13] at hF
            refine jx_aload_n E dX4_build_53 0 rfl ?_
            refine jx_iconst (x := 4) E dX4_build_54 (by decide) ?_
            obtain ⟨⟨r16, v16⟩, hc16, hF⟩ := jx_bind hF
            try dsimp only at hF
            refine jx_callVi (As := [.int 4]) (st := []) (h := 0) E dX4_build_55 1 rfl (k_X4_finding hI 4 v12 r16 v16 hc16) (gb_V (List.mem_cons_of_mem _ tw_192) (List.mem_cons_of_mem _ tw_193) (List.mem_cons_of_mem _ tw_194) (List.mem_cons_of_mem _ tw_190) tw_191) rfl rfl rfl dd_X4_finding rfl (Nat.le_of_ble_eq_true rfl) s_X0 rfl ⟨by decide, by decide⟩ ⟨Nat.le_refl 0, Nat.le_refl 0⟩ (Nat.le_of_ble_eq_true rfl) ?_
            obtain ⟨rfl, rfl⟩ := jx_out hF
            exact jx_iret E dX4_build_58 rfl
        · rw [if_pos hc11] at hF
          refine jx_aload_n E dX4_build_36 0 rfl ?_
          refine jx_iconst (x := 0) E dX4_build_37 (by decide) ?_
          obtain ⟨⟨r17, v17⟩, hc17, hF⟩ := jx_bind hF
          try dsimp only at hF
          refine jx_callVi (As := [.int 0]) (st := []) (h := 0) E dX4_build_38 1 rfl (k_X4_finding hI 0 v10 r17 v17 hc17) (gb_V (List.mem_cons_of_mem _ tw_192) (List.mem_cons_of_mem _ tw_193) (List.mem_cons_of_mem _ tw_194) (List.mem_cons_of_mem _ tw_190) tw_191) rfl rfl rfl dd_X4_finding rfl (Nat.le_of_ble_eq_true rfl) s_X0 rfl ⟨by decide, by decide⟩ ⟨Nat.le_refl 0, Nat.le_refl 0⟩ (Nat.le_of_ble_eq_true rfl) ?_
          obtain ⟨rfl, rfl⟩ := jx_out hF
          exact jx_iret E dX4_build_41 rfl
def f_X4_clear (x1 : Int32) (v : jx_V) : Option (Int32 × jx_V) := ((f_X4_within x1 25 v).bind (fun (r1, v1) => (if r1 = 0 then ((f_X4_finding 0 v1).bind (fun (r8, v8) => (some (r8, v8)))) else ((f_X3_isTaken 1 x1 v1).bind (fun (r3, v3) => (if r3 = 0 then ((f_X4_finding 3 v3).bind (fun (r7, v7) => (some (r7, v7)))) else ((f_X3_takeOff 1 x1 v3).bind (fun v5 => (if (x1 < 0 ∨ 25 ≤ Int32.toNatClampNeg x1) then none else (some ((v5 6 (Int32.toNatClampNeg x1)), v5)))))))))))
def rm_X4_clear : Room := { frames := 1, cells := 0, slots := 0, locals := 21 }
set_option maxHeartbeats 4000000 in
set_option maxRecDepth 100000 in
theorem k_X4_clear {l : Launch} {D : va_G} {cI cJ : ClassId} {ad : Nat → Nat} {A : Nat → Prop} {adK adV : Nat → Nat} (hI : jx_inj 67 ad A) (x1 : Int32) (v : jx_V) (r : Int32) (v' : jx_V) (hF : f_X4_clear x1 v = some (r, v')) : jx_Ci l D vwCl 67 cI cJ ad shX A (ex_X adK adV A) yX4_clear (Cond.code yX4_clear cX4_clear 2 (some .int) :: bigT) rm_X4_clear [.ref (ad 0), .int x1] v r v' := by
  unfold f_X4_clear at hF
  refine jx_enteri bigT RX4 cX4_clear 2 (some .int) [(0, .ref (ad 0)), (1, .int x1)] hI (ex_X_ok adK adV A) (by decide +kernel) rfl (Nat.le_of_ble_eq_true rfl) rfl rfl ?_
  intro p e s m args below meth c E
  have iX3 : ∀ w ∈ u_ws RX3 TX3 8, w ∈ (Cond.code yX4_clear cX4_clear 2 (some .int) :: bigT) := fun w h => List.mem_cons_of_mem _ (uw_X3 w h)
  have iX4 : ∀ w ∈ u_ws RX4 TX4 11, w ∈ (Cond.code yX4_clear cX4_clear 2 (some .int) :: bigT) := fun w h => List.mem_cons_of_mem _ (uw_X4 w h)
  refine jx_iload_n E dX4_clear_0 1 rfl ?_
  refine jx_bipush (x := 25) E dX4_clear_1 (by decide) ?_
  obtain ⟨⟨r1, v1⟩, hc1, hF⟩ := jx_bind hF
  try dsimp only at hF
  refine jx_callSi (As := [.int x1, .int 25]) (st := []) E dX4_clear_3 2 rfl (k_X4_within hI x1 25 v r1 v1 hc1) (gb_S (List.mem_cons_of_mem _ tw_188) (List.mem_cons_of_mem _ tw_189) (List.mem_cons_of_mem _ tw_190) tw_187) rfl rfl rfl dd_X4_within rfl ⟨by decide, by decide⟩ ⟨Nat.le_refl 0, Nat.le_refl 0⟩ (Nat.le_of_ble_eq_true rfl) ?_
  refine jx_if_ne (tgt := 15) E dX4_clear_6 (by decide) (fun hc2 => ?_) (fun hc2 => ?_)
  · rw [if_neg hc2] at hF
    refine jx_aload_n E dX4_clear_15 0 rfl ?_
    refine jx_getr (C := RX4) (T := TX4) (M := 11) (k := 0) E dX4_clear_16 (Nat.le_of_ble_eq_true rfl) s_X0 rfl iX4 (by decide) rfl (List.mem_cons_of_mem _ tw_195) rfl ?_
    refine jx_iload_n E dX4_clear_19 1 rfl ?_
    obtain ⟨⟨r3, v3⟩, hc3, hF⟩ := jx_bind hF
    try dsimp only at hF
    refine jx_callNi (As := [.int x1]) (st := []) (h := 1) E dX4_clear_20 1 rfl (k_X3_isTaken hI 1 jx_T1 x1 v1 r3 v3 hc3) (gb_N tw_51) rfl rfl rfl (ex_m4 (jx_ex E)) (List.mem_cons_of_mem _ tw_33) (List.mem_cons_of_mem _ tw_52) (List.mem_cons_of_mem _ tw_53) dd_X3_isTaken.2 rfl (Nat.le_of_ble_eq_true rfl) s_X1 rfl ⟨by decide, by decide⟩ ⟨Nat.le_refl 0, Nat.le_refl 0⟩ (Nat.le_of_ble_eq_true rfl) ?_
    refine jx_if_ne (tgt := 32) E dX4_clear_23 (by decide) (fun hc4 => ?_) (fun hc4 => ?_)
    · rw [if_neg hc4] at hF
      refine jx_aload_n E dX4_clear_32 0 rfl ?_
      refine jx_getr (C := RX4) (T := TX4) (M := 11) (k := 0) E dX4_clear_33 (Nat.le_of_ble_eq_true rfl) s_X0 rfl iX4 (by decide) rfl (List.mem_cons_of_mem _ tw_195) rfl ?_
      refine jx_iload_n E dX4_clear_36 1 rfl ?_
      obtain ⟨v5, hc5, hF⟩ := jx_bind hF
      try dsimp only at hF
      refine jx_callNv (As := [.int x1]) (st := []) (h := 1) E dX4_clear_37 1 rfl (k_X3_takeOff hI 1 jx_T1 x1 v3 v5 hc5) (gb_N tw_145) rfl rfl rfl (ex_m7 (jx_ex E)) (List.mem_cons_of_mem _ tw_33) (List.mem_cons_of_mem _ tw_146) (List.mem_cons_of_mem _ tw_147) dd_X3_takeOff.2 rfl (Nat.le_of_ble_eq_true rfl) s_X1 rfl ⟨by decide, by decide⟩ ⟨Nat.le_refl 0, Nat.le_refl 0⟩ (Nat.le_of_ble_eq_true rfl) ?_
      refine jx_aload_n E dX4_clear_40 0 rfl ?_
      refine jx_getr (C := RX4) (T := TX4) (M := 11) (k := 0) E dX4_clear_41 (Nat.le_of_ble_eq_true rfl) s_X0 rfl iX4 (by decide) rfl (List.mem_cons_of_mem _ tw_195) rfl ?_
      refine jx_getrN (C := RX3) (T := TX3) (M := 8) (k := 0) E dX4_clear_44 (Nat.le_of_ble_eq_true rfl) s_X1 rfl iX3 (by decide) rfl (ex_f0 (jx_ex E)) rfl ?_
      refine jx_iconst (x := 2) E dX4_clear_47 (by decide) ?_
      refine jx_aald (h' := 6) E dX4_clear_48 (Nat.le_of_ble_eq_true rfl) s_X2 (show ¬ ((2 : Int32) < 0 ∨ 4 ≤ Int32.toNatClampNeg 2) by decide) rfl ?_
      refine jx_iload_n E dX4_clear_49 1 rfl ?_
      obtain ⟨hg6, hF⟩ := jx_guard hF
      refine jx_iald (h := 6) (j := (Int32.toNatClampNeg x1)) E dX4_clear_50 (Nat.le_of_ble_eq_true rfl) s_X6 hg6 rfl ?_
      obtain ⟨rfl, rfl⟩ := jx_out hF
      exact jx_iret E dX4_clear_51 rfl
    · rw [if_pos hc4] at hF
      refine jx_aload_n E dX4_clear_26 0 rfl ?_
      refine jx_iconst (x := 3) E dX4_clear_27 (by decide) ?_
      obtain ⟨⟨r7, v7⟩, hc7, hF⟩ := jx_bind hF
      try dsimp only at hF
      refine jx_callVi (As := [.int 3]) (st := []) (h := 0) E dX4_clear_28 1 rfl (k_X4_finding hI 3 v3 r7 v7 hc7) (gb_V (List.mem_cons_of_mem _ tw_192) (List.mem_cons_of_mem _ tw_193) (List.mem_cons_of_mem _ tw_194) (List.mem_cons_of_mem _ tw_190) tw_191) rfl rfl rfl dd_X4_finding rfl (Nat.le_of_ble_eq_true rfl) s_X0 rfl ⟨by decide, by decide⟩ ⟨Nat.le_refl 0, Nat.le_refl 0⟩ (Nat.le_of_ble_eq_true rfl) ?_
      obtain ⟨rfl, rfl⟩ := jx_out hF
      exact jx_iret E dX4_clear_31 rfl
  · rw [if_pos hc2] at hF
    refine jx_aload_n E dX4_clear_9 0 rfl ?_
    refine jx_iconst (x := 0) E dX4_clear_10 (by decide) ?_
    obtain ⟨⟨r8, v8⟩, hc8, hF⟩ := jx_bind hF
    try dsimp only at hF
    refine jx_callVi (As := [.int 0]) (st := []) (h := 0) E dX4_clear_11 1 rfl (k_X4_finding hI 0 v1 r8 v8 hc8) (gb_V (List.mem_cons_of_mem _ tw_192) (List.mem_cons_of_mem _ tw_193) (List.mem_cons_of_mem _ tw_194) (List.mem_cons_of_mem _ tw_190) tw_191) rfl rfl rfl dd_X4_finding rfl (Nat.le_of_ble_eq_true rfl) s_X0 rfl ⟨by decide, by decide⟩ ⟨Nat.le_refl 0, Nat.le_refl 0⟩ (Nat.le_of_ble_eq_true rfl) ?_
    obtain ⟨rfl, rfl⟩ := jx_out hF
    exact jx_iret E dX4_clear_14 rfl
def f_X4_of (x1 : Int32) (x2 : Int32) (v : jx_V) : Option (Int32 × jx_V) := ((f_X4_within x1 25 v).bind (fun (r1, v1) => (if r1 = 0 then ((f_X4_finding 0 v1).bind (fun (r3, v3) => (some (r3, v3)))) else ((f_X4_within x2 7 v1).bind (fun (r4, v4) => (if r4 = 0 then ((f_X4_finding 0 v4).bind (fun (r17, v17) => (some (r17, v17)))) else ((f_X3_isTaken 1 x1 v4).bind (fun (r6, v6) => (if r6 = 0 then ((f_X4_finding 3 v6).bind (fun (r16, v16) => (some (r16, v16)))) else (if 4 ≤ x2 then (if x2 = 4 then ((f_X3_standing 1 x1 v6).bind (fun (r13, v13) => (some (r13, v13)))) else (if x2 = 5 then ((f_X3_squarePrice 1 x1 v6).bind (fun (r12, v12) => (some (r12, v12)))) else ((f_X3_growth 1 x1 v6).bind (fun (r11, v11) => (some (r11, v11)))))) else (if (x2 < 0 ∨ 4 ≤ (x2).toNatClampNeg) then none else (if (x1 < 0 ∨ 25 ≤ Int32.toNatClampNeg x1) then none else (some ((v6 (1 + 3 + (x2).toNatClampNeg) (Int32.toNatClampNeg x1)), v6))))))))))))))
def rm_X4_of : Room := { frames := 2, cells := 0, slots := 0, locals := 44 }
set_option maxHeartbeats 4000000 in
set_option maxRecDepth 100000 in
theorem k_X4_of {l : Launch} {D : va_G} {cI cJ : ClassId} {ad : Nat → Nat} {A : Nat → Prop} {adK adV : Nat → Nat} (hI : jx_inj 67 ad A) (x1 : Int32) (x2 : Int32) (v : jx_V) (r : Int32) (v' : jx_V) (hF : f_X4_of x1 x2 v = some (r, v')) : jx_Ci l D vwCl 67 cI cJ ad shX A (ex_X adK adV A) yX4_of (Cond.code yX4_of cX4_of 3 (some .int) :: bigT) rm_X4_of [.ref (ad 0), .int x1, .int x2] v r v' := by
  unfold f_X4_of at hF
  refine jx_enteri bigT RX4 cX4_of 3 (some .int) [(0, .ref (ad 0)), (1, .int x1), (2, .int x2)] hI (ex_X_ok adK adV A) (by decide +kernel) rfl (Nat.le_of_ble_eq_true rfl) rfl rfl ?_
  intro p e s m args below meth c E
  have iX3 : ∀ w ∈ u_ws RX3 TX3 8, w ∈ (Cond.code yX4_of cX4_of 3 (some .int) :: bigT) := fun w h => List.mem_cons_of_mem _ (uw_X3 w h)
  have iX4 : ∀ w ∈ u_ws RX4 TX4 11, w ∈ (Cond.code yX4_of cX4_of 3 (some .int) :: bigT) := fun w h => List.mem_cons_of_mem _ (uw_X4 w h)
  refine jx_iload_n E dX4_of_0 1 rfl ?_
  refine jx_bipush (x := 25) E dX4_of_1 (by decide) ?_
  obtain ⟨⟨r1, v1⟩, hc1, hF⟩ := jx_bind hF
  try dsimp only at hF
  refine jx_callSi (As := [.int x1, .int 25]) (st := []) E dX4_of_3 2 rfl (k_X4_within hI x1 25 v r1 v1 hc1) (gb_S (List.mem_cons_of_mem _ tw_188) (List.mem_cons_of_mem _ tw_189) (List.mem_cons_of_mem _ tw_190) tw_187) rfl rfl rfl dd_X4_within rfl ⟨by decide, by decide⟩ ⟨Nat.le_refl 0, Nat.le_refl 0⟩ (Nat.le_of_ble_eq_true rfl) ?_
  refine jx_if_eq (tgt := 18) E dX4_of_6 (by decide) (fun hc2 => ?_) (fun hc2 => ?_)
  · rw [if_pos hc2] at hF
    refine jx_aload_n E dX4_of_18 0 rfl ?_
    refine jx_iconst (x := 0) E dX4_of_19 (by decide) ?_
    obtain ⟨⟨r3, v3⟩, hc3, hF⟩ := jx_bind hF
    try dsimp only at hF
    refine jx_callVi (As := [.int 0]) (st := []) (h := 0) E dX4_of_20 1 rfl (k_X4_finding hI 0 v1 r3 v3 hc3) (gb_V (List.mem_cons_of_mem _ tw_192) (List.mem_cons_of_mem _ tw_193) (List.mem_cons_of_mem _ tw_194) (List.mem_cons_of_mem _ tw_190) tw_191) rfl rfl rfl dd_X4_finding rfl (Nat.le_of_ble_eq_true rfl) s_X0 rfl ⟨by decide, by decide⟩ ⟨Nat.le_refl 0, Nat.le_refl 0⟩ (Nat.le_of_ble_eq_true rfl) ?_
    obtain ⟨rfl, rfl⟩ := jx_out hF
    exact jx_iret E dX4_of_23 rfl
  · rw [if_neg hc2] at hF
    refine jx_iload_n E dX4_of_9 2 rfl ?_
    refine jx_bipush (x := 7) E dX4_of_10 (by decide) ?_
    obtain ⟨⟨r4, v4⟩, hc4, hF⟩ := jx_bind hF
    try dsimp only at hF
    refine jx_callSi (As := [.int x2, .int 7]) (st := []) E dX4_of_12 2 rfl (k_X4_within hI x2 7 v1 r4 v4 hc4) (gb_S (List.mem_cons_of_mem _ tw_188) (List.mem_cons_of_mem _ tw_189) (List.mem_cons_of_mem _ tw_190) tw_187) rfl rfl rfl dd_X4_within rfl ⟨by decide, by decide⟩ ⟨Nat.le_refl 0, Nat.le_refl 0⟩ (Nat.le_of_ble_eq_true rfl) ?_
    refine jx_if_ne (tgt := 24) E dX4_of_15 (by decide) (fun hc5 => ?_) (fun hc5 => ?_)
    · rw [if_neg hc5] at hF
      refine jx_aload_n E dX4_of_24 0 rfl ?_
      refine jx_getr (C := RX4) (T := TX4) (M := 11) (k := 0) E dX4_of_25 (Nat.le_of_ble_eq_true rfl) s_X0 rfl iX4 (by decide) rfl (List.mem_cons_of_mem _ tw_195) rfl ?_
      refine jx_iload_n E dX4_of_28 1 rfl ?_
      obtain ⟨⟨r6, v6⟩, hc6, hF⟩ := jx_bind hF
      try dsimp only at hF
      refine jx_callNi (As := [.int x1]) (st := []) (h := 1) E dX4_of_29 1 rfl (k_X3_isTaken hI 1 jx_T1 x1 v4 r6 v6 hc6) (gb_N tw_51) rfl rfl rfl (ex_m4 (jx_ex E)) (List.mem_cons_of_mem _ tw_33) (List.mem_cons_of_mem _ tw_52) (List.mem_cons_of_mem _ tw_53) dd_X3_isTaken.2 rfl (Nat.le_of_ble_eq_true rfl) s_X1 rfl ⟨by decide, by decide⟩ ⟨Nat.le_refl 0, Nat.le_refl 0⟩ (Nat.le_of_ble_eq_true rfl) ?_
      refine jx_if_ne (tgt := 41) E dX4_of_32 (by decide) (fun hc7 => ?_) (fun hc7 => ?_)
      · rw [if_neg hc7] at hF
        refine jx_iload_n E dX4_of_41 2 rfl ?_
        refine jx_iconst (x := 4) E dX4_of_42 (by decide) ?_
        refine jx_icmp_ge (tgt := 58) E dX4_of_43 (by decide) (fun hc8 => ?_) (fun hc8 => ?_)
        · rw [if_pos hc8] at hF
          refine jx_iload_n E dX4_of_58 2 rfl ?_
          refine jx_iconst (x := 4) E dX4_of_59 (by decide) ?_
          refine jx_icmp_ne (tgt := 72) E dX4_of_60 (by decide) (fun hc9 => ?_) (fun hc9 => ?_)
          · rw [if_neg hc9] at hF
            refine jx_iload_n E dX4_of_72 2 rfl ?_
            refine jx_iconst (x := 5) E dX4_of_73 (by decide) ?_
            refine jx_icmp_ne (tgt := 88) E dX4_of_74 (by decide) (fun hc10 => ?_) (fun hc10 => ?_)
            · rw [if_neg hc10] at hF
              refine jx_aload_n E dX4_of_88 0 rfl ?_
              refine jx_getr (C := RX4) (T := TX4) (M := 11) (k := 0) E dX4_of_89 (Nat.le_of_ble_eq_true rfl) s_X0 rfl iX4 (by decide) rfl (List.mem_cons_of_mem _ tw_195) rfl ?_
              refine jx_iload_n E dX4_of_92 1 rfl ?_
              obtain ⟨⟨r11, v11⟩, hc11, hF⟩ := jx_bind hF
              try dsimp only at hF
              refine jx_callNi (As := [.int x1]) (st := []) (h := 1) E dX4_of_93 1 rfl (k_X3_growth hI 1 jx_T1 x1 v6 r11 v11 hc11) (gb_N tw_180) rfl rfl rfl (ex_m10 (jx_ex E)) (List.mem_cons_of_mem _ tw_33) (List.mem_cons_of_mem _ tw_182) (List.mem_cons_of_mem _ tw_183) dd_X3_growth.2 rfl (Nat.le_of_ble_eq_true rfl) s_X1 rfl ⟨by decide, by decide⟩ ⟨Nat.le_refl 0, Nat.le_refl 0⟩ (Nat.le_of_ble_eq_true rfl) ?_
              obtain ⟨rfl, rfl⟩ := jx_out hF
              exact jx_iret E dX4_of_96 rfl
            · rw [if_pos hc10] at hF
              refine jx_aload_n E dX4_of_77 0 rfl ?_
              refine jx_getr (C := RX4) (T := TX4) (M := 11) (k := 0) E dX4_of_78 (Nat.le_of_ble_eq_true rfl) s_X0 rfl iX4 (by decide) rfl (List.mem_cons_of_mem _ tw_195) rfl ?_
              refine jx_iload_n E dX4_of_81 1 rfl ?_
              obtain ⟨⟨r12, v12⟩, hc12, hF⟩ := jx_bind hF
              try dsimp only at hF
              refine jx_callNi (As := [.int x1]) (st := []) (h := 1) E dX4_of_82 1 rfl (k_X3_squarePrice hI 1 jx_T1 x1 v6 r12 v12 hc12) (gb_N tw_74) rfl rfl rfl (ex_m9 (jx_ex E)) (List.mem_cons_of_mem _ tw_33) (List.mem_cons_of_mem _ tw_75) (List.mem_cons_of_mem _ tw_76) dd_X3_squarePrice.2 rfl (Nat.le_of_ble_eq_true rfl) s_X1 rfl ⟨by decide, by decide⟩ ⟨Nat.le_refl 0, Nat.le_refl 0⟩ (Nat.le_of_ble_eq_true rfl) ?_
              refine jx_goto (tgt := 96) E dX4_of_85 (by decide) ?_
              obtain ⟨rfl, rfl⟩ := jx_out hF
              exact jx_iret E dX4_of_96 rfl
          · rw [if_pos hc9] at hF
            refine jx_aload_n E dX4_of_63 0 rfl ?_
            refine jx_getr (C := RX4) (T := TX4) (M := 11) (k := 0) E dX4_of_64 (Nat.le_of_ble_eq_true rfl) s_X0 rfl iX4 (by decide) rfl (List.mem_cons_of_mem _ tw_195) rfl ?_
            refine jx_iload_n E dX4_of_67 1 rfl ?_
            obtain ⟨⟨r13, v13⟩, hc13, hF⟩ := jx_bind hF
            try dsimp only at hF
            refine jx_callNi (As := [.int x1]) (st := []) (h := 1) E dX4_of_68 1 rfl (k_X3_standing hI 1 jx_T1 x1 v6 r13 v13 hc13) (gb_N tw_54) rfl rfl rfl (ex_m8 (jx_ex E)) (List.mem_cons_of_mem _ tw_33) (List.mem_cons_of_mem _ tw_55) (List.mem_cons_of_mem _ tw_56) dd_X3_standing.2 rfl (Nat.le_of_ble_eq_true rfl) s_X1 rfl ⟨by decide, by decide⟩ ⟨Nat.le_refl 0, Nat.le_refl 0⟩ (Nat.le_of_ble_eq_true rfl) ?_
            obtain ⟨rfl, rfl⟩ := jx_out hF
            exact jx_iret E dX4_of_71 rfl
        · rw [if_neg hc8] at hF
          refine jx_aload_n E dX4_of_46 0 rfl ?_
          refine jx_getr (C := RX4) (T := TX4) (M := 11) (k := 0) E dX4_of_47 (Nat.le_of_ble_eq_true rfl) s_X0 rfl iX4 (by decide) rfl (List.mem_cons_of_mem _ tw_195) rfl ?_
          refine jx_getrN (C := RX3) (T := TX3) (M := 8) (k := 0) E dX4_of_50 (Nat.le_of_ble_eq_true rfl) s_X1 rfl iX3 (by decide) rfl (ex_f0 (jx_ex E)) rfl ?_
          refine jx_iload_n E dX4_of_53 2 rfl ?_
          obtain ⟨hg14, hF⟩ := jx_guard hF
          refine jx_aald (h' := (1 + 3 + (x2).toNatClampNeg)) E dX4_of_54 (Nat.le_of_ble_eq_true rfl) s_X2 hg14 (l_Tr (t := 1) (l_lt hg14)) ?_
          refine jx_iload_n E dX4_of_55 1 rfl ?_
          obtain ⟨hg15, hF⟩ := jx_guard hF
          refine jx_iald (h := (1 + 3 + (x2).toNatClampNeg)) (j := (Int32.toNatClampNeg x1)) E dX4_of_56 (n_Tr jx_T1 (l_lt hg14)) (s_Tr jx_T1 (l_lt hg14)) hg15 rfl ?_
          obtain ⟨rfl, rfl⟩ := jx_out hF
          exact jx_iret E dX4_of_57 rfl
      · rw [if_pos hc7] at hF
        refine jx_aload_n E dX4_of_35 0 rfl ?_
        refine jx_iconst (x := 3) E dX4_of_36 (by decide) ?_
        obtain ⟨⟨r16, v16⟩, hc16, hF⟩ := jx_bind hF
        try dsimp only at hF
        refine jx_callVi (As := [.int 3]) (st := []) (h := 0) E dX4_of_37 1 rfl (k_X4_finding hI 3 v6 r16 v16 hc16) (gb_V (List.mem_cons_of_mem _ tw_192) (List.mem_cons_of_mem _ tw_193) (List.mem_cons_of_mem _ tw_194) (List.mem_cons_of_mem _ tw_190) tw_191) rfl rfl rfl dd_X4_finding rfl (Nat.le_of_ble_eq_true rfl) s_X0 rfl ⟨by decide, by decide⟩ ⟨Nat.le_refl 0, Nat.le_refl 0⟩ (Nat.le_of_ble_eq_true rfl) ?_
        obtain ⟨rfl, rfl⟩ := jx_out hF
        exact jx_iret E dX4_of_40 rfl
    · rw [if_pos hc5] at hF
      refine jx_aload_n E dX4_of_18 0 rfl ?_
      refine jx_iconst (x := 0) E dX4_of_19 (by decide) ?_
      obtain ⟨⟨r17, v17⟩, hc17, hF⟩ := jx_bind hF
      try dsimp only at hF
      refine jx_callVi (As := [.int 0]) (st := []) (h := 0) E dX4_of_20 1 rfl (k_X4_finding hI 0 v4 r17 v17 hc17) (gb_V (List.mem_cons_of_mem _ tw_192) (List.mem_cons_of_mem _ tw_193) (List.mem_cons_of_mem _ tw_194) (List.mem_cons_of_mem _ tw_190) tw_191) rfl rfl rfl dd_X4_finding rfl (Nat.le_of_ble_eq_true rfl) s_X0 rfl ⟨by decide, by decide⟩ ⟨Nat.le_refl 0, Nat.le_refl 0⟩ (Nat.le_of_ble_eq_true rfl) ?_
      obtain ⟨rfl, rfl⟩ := jx_out hF
      exact jx_iret E dX4_of_23 rfl
def f_X4_thingLimit (x0 : Int32) (v : jx_V) : Option (Int32 × jx_V) := (if x0 = 0 then (some (7, v)) else (if x0 = 1 then (some (4, v)) else (if x0 = 2 then (some (10, v)) else (some (4, v)))))
def rm_X4_thingLimit : Room := { frames := 0, cells := 0, slots := 0, locals := 0 }
set_option maxHeartbeats 4000000 in
set_option maxRecDepth 100000 in
theorem k_X4_thingLimit {l : Launch} {D : va_G} {cI cJ : ClassId} {ad : Nat → Nat} {A : Nat → Prop} {adK adV : Nat → Nat} (hI : jx_inj 67 ad A) (x0 : Int32) (v : jx_V) (r : Int32) (v' : jx_V) (hF : f_X4_thingLimit x0 v = some (r, v')) : jx_Ci l D vwCl 67 cI cJ ad shX A (ex_X adK adV A) yX4_thingLimit (Cond.code yX4_thingLimit cX4_thingLimit 1 (some .int) :: bigT) rm_X4_thingLimit [.int x0] v r v' := by
  unfold f_X4_thingLimit at hF
  refine jx_enteri bigT RX4 cX4_thingLimit 1 (some .int) [(0, .int x0)] hI (ex_X_ok adK adV A) (by decide +kernel) rfl (Nat.le_of_ble_eq_true rfl) rfl rfl ?_
  intro p e s m args below meth c E
  refine jx_iload_n E dX4_thingLimit_0 0 rfl ?_
  by_cases hc1 : x0 = 0
  · rw [if_pos hc1] at hF
    refine jx_tableIn (tgt := 28) (z := 0) E dX4_thingLimit_1 hc1 (by decide) (by decide) rfl (by decide) ?_
    refine jx_bipush (x := 7) E dX4_thingLimit_28 (by decide) ?_
    obtain ⟨rfl, rfl⟩ := jx_out hF
    exact jx_iret E dX4_thingLimit_30 rfl
  rw [if_neg hc1] at hF
  by_cases hc2 : x0 = 1
  · rw [if_pos hc2] at hF
    refine jx_tableIn (tgt := 31) (z := 1) E dX4_thingLimit_1 hc2 (by decide) (by decide) rfl (by decide) ?_
    refine jx_iconst (x := 4) E dX4_thingLimit_31 (by decide) ?_
    obtain ⟨rfl, rfl⟩ := jx_out hF
    exact jx_iret E dX4_thingLimit_32 rfl
  rw [if_neg hc2] at hF
  by_cases hc3 : x0 = 2
  · rw [if_pos hc3] at hF
    refine jx_tableIn (tgt := 33) (z := 2) E dX4_thingLimit_1 hc3 (by decide) (by decide) rfl (by decide) ?_
    refine jx_bipush (x := 10) E dX4_thingLimit_33 (by decide) ?_
    obtain ⟨rfl, rfl⟩ := jx_out hF
    exact jx_iret E dX4_thingLimit_35 rfl
  rw [if_neg hc3] at hF
  refine jx_tableOut (tgt := 36) E dX4_thingLimit_1 (by have hz1 := jx_ne hc1 (k := 0) (by decide); have hz2 := jx_ne hc2 (k := 1) (by decide); have hz3 := jx_ne hc3 (k := 2) (by decide); omega) (by decide) ?_
  refine jx_iconst (x := 4) E dX4_thingLimit_36 (by decide) ?_
  obtain ⟨rfl, rfl⟩ := jx_out hF
  exact jx_iret E dX4_thingLimit_37 rfl
def f_X4_change (x1 : Int32) (x2 : Int32) (x3 : Int32) (v : jx_V) : Option (Int32 × jx_V) := ((f_X4_within x1 25 v).bind (fun (r1, v1) => (if r1 = 0 then ((f_X4_finding 0 v1).bind (fun (r3, v3) => (some (r3, v3)))) else ((f_X4_within x2 4 v1).bind (fun (r4, v4) => (if r4 = 0 then ((f_X4_finding 0 v4).bind (fun (r6, v6) => (some (r6, v6)))) else ((f_X4_thingLimit x2 v4).bind (fun (r7, v7) => ((f_X4_within x3 r7 v7).bind (fun (r8, v8) => (if r8 = 0 then ((f_X4_finding 0 v8).bind (fun (r17, v17) => (some (r17, v17)))) else ((f_X3_isTaken 1 x1 v8).bind (fun (r10, v10) => (if r10 = 0 then ((f_X4_finding 3 v10).bind (fun (r16, v16) => (some (r16, v16)))) else (if (x2 < 0 ∨ 4 ≤ (x2).toNatClampNeg) then none else (if (x1 < 0 ∨ 25 ≤ Int32.toNatClampNeg x1) then none else (if (x2 < 0 ∨ 4 ≤ (x2).toNatClampNeg) then none else (if (x1 < 0 ∨ 25 ≤ Int32.toNatClampNeg x1) then none else (some ((v10 (1 + 3 + (x2).toNatClampNeg) (Int32.toNatClampNeg x1)), (jx_up v10 (1 + 3 + (x2).toNatClampNeg) (Int32.toNatClampNeg x1) x3)))))))))))))))))))))
def rm_X4_change : Room := { frames := 1, cells := 0, slots := 0, locals := 21 }
set_option maxHeartbeats 4000000 in
set_option maxRecDepth 100000 in
theorem k_X4_change {l : Launch} {D : va_G} {cI cJ : ClassId} {ad : Nat → Nat} {A : Nat → Prop} {adK adV : Nat → Nat} (hI : jx_inj 67 ad A) (x1 : Int32) (x2 : Int32) (x3 : Int32) (v : jx_V) (r : Int32) (v' : jx_V) (hF : f_X4_change x1 x2 x3 v = some (r, v')) : jx_Ci l D vwCl 67 cI cJ ad shX A (ex_X adK adV A) yX4_change (Cond.code yX4_change cX4_change 5 (some .int) :: bigT) rm_X4_change [.ref (ad 0), .int x1, .int x2, .int x3] v r v' := by
  unfold f_X4_change at hF
  refine jx_enteri bigT RX4 cX4_change 5 (some .int) [(0, .ref (ad 0)), (1, .int x1), (2, .int x2), (3, .int x3)] hI (ex_X_ok adK adV A) (by decide +kernel) rfl (Nat.le_of_ble_eq_true rfl) rfl rfl ?_
  intro p e s m args below meth c E
  have iX3 : ∀ w ∈ u_ws RX3 TX3 8, w ∈ (Cond.code yX4_change cX4_change 5 (some .int) :: bigT) := fun w h => List.mem_cons_of_mem _ (uw_X3 w h)
  have iX4 : ∀ w ∈ u_ws RX4 TX4 11, w ∈ (Cond.code yX4_change cX4_change 5 (some .int) :: bigT) := fun w h => List.mem_cons_of_mem _ (uw_X4 w h)
  refine jx_iload_n E dX4_change_0 1 rfl ?_
  refine jx_bipush (x := 25) E dX4_change_1 (by decide) ?_
  obtain ⟨⟨r1, v1⟩, hc1, hF⟩ := jx_bind hF
  try dsimp only at hF
  refine jx_callSi (As := [.int x1, .int 25]) (st := []) E dX4_change_3 2 rfl (k_X4_within hI x1 25 v r1 v1 hc1) (gb_S (List.mem_cons_of_mem _ tw_188) (List.mem_cons_of_mem _ tw_189) (List.mem_cons_of_mem _ tw_190) tw_187) rfl rfl rfl dd_X4_within rfl ⟨by decide, by decide⟩ ⟨Nat.le_refl 0, Nat.le_refl 0⟩ (Nat.le_of_ble_eq_true rfl) ?_
  refine jx_if_eq (tgt := 28) E dX4_change_6 (by decide) (fun hc2 => ?_) (fun hc2 => ?_)
  · rw [if_pos hc2] at hF
    refine jx_aload_n E dX4_change_28 0 rfl ?_
    refine jx_iconst (x := 0) E dX4_change_29 (by decide) ?_
    obtain ⟨⟨r3, v3⟩, hc3, hF⟩ := jx_bind hF
    try dsimp only at hF
    refine jx_callVi (As := [.int 0]) (st := []) (h := 0) E dX4_change_30 1 rfl (k_X4_finding hI 0 v1 r3 v3 hc3) (gb_V (List.mem_cons_of_mem _ tw_192) (List.mem_cons_of_mem _ tw_193) (List.mem_cons_of_mem _ tw_194) (List.mem_cons_of_mem _ tw_190) tw_191) rfl rfl rfl dd_X4_finding rfl (Nat.le_of_ble_eq_true rfl) s_X0 rfl ⟨by decide, by decide⟩ ⟨Nat.le_refl 0, Nat.le_refl 0⟩ (Nat.le_of_ble_eq_true rfl) ?_
    obtain ⟨rfl, rfl⟩ := jx_out hF
    exact jx_iret E dX4_change_33 rfl
  · rw [if_neg hc2] at hF
    refine jx_iload_n E dX4_change_9 2 rfl ?_
    refine jx_iconst (x := 4) E dX4_change_10 (by decide) ?_
    obtain ⟨⟨r4, v4⟩, hc4, hF⟩ := jx_bind hF
    try dsimp only at hF
    refine jx_callSi (As := [.int x2, .int 4]) (st := []) E dX4_change_11 2 rfl (k_X4_within hI x2 4 v1 r4 v4 hc4) (gb_S (List.mem_cons_of_mem _ tw_188) (List.mem_cons_of_mem _ tw_189) (List.mem_cons_of_mem _ tw_190) tw_187) rfl rfl rfl dd_X4_within rfl ⟨by decide, by decide⟩ ⟨Nat.le_refl 0, Nat.le_refl 0⟩ (Nat.le_of_ble_eq_true rfl) ?_
    refine jx_if_eq (tgt := 28) E dX4_change_14 (by decide) (fun hc5 => ?_) (fun hc5 => ?_)
    · rw [if_pos hc5] at hF
      refine jx_aload_n E dX4_change_28 0 rfl ?_
      refine jx_iconst (x := 0) E dX4_change_29 (by decide) ?_
      obtain ⟨⟨r6, v6⟩, hc6, hF⟩ := jx_bind hF
      try dsimp only at hF
      refine jx_callVi (As := [.int 0]) (st := []) (h := 0) E dX4_change_30 1 rfl (k_X4_finding hI 0 v4 r6 v6 hc6) (gb_V (List.mem_cons_of_mem _ tw_192) (List.mem_cons_of_mem _ tw_193) (List.mem_cons_of_mem _ tw_194) (List.mem_cons_of_mem _ tw_190) tw_191) rfl rfl rfl dd_X4_finding rfl (Nat.le_of_ble_eq_true rfl) s_X0 rfl ⟨by decide, by decide⟩ ⟨Nat.le_refl 0, Nat.le_refl 0⟩ (Nat.le_of_ble_eq_true rfl) ?_
      obtain ⟨rfl, rfl⟩ := jx_out hF
      exact jx_iret E dX4_change_33 rfl
    · rw [if_neg hc5] at hF
      refine jx_iload_n E dX4_change_17 3 rfl ?_
      refine jx_iload_n E dX4_change_18 2 rfl ?_
      obtain ⟨⟨r7, v7⟩, hc7, hF⟩ := jx_bind hF
      try dsimp only at hF
      refine jx_callSi (As := [.int x2]) (st := [.int x3]) E dX4_change_19 1 rfl (k_X4_thingLimit hI x2 v4 r7 v7 hc7) (gb_S (List.mem_cons_of_mem _ tw_200) (List.mem_cons_of_mem _ tw_201) (List.mem_cons_of_mem _ tw_190) tw_199) rfl rfl rfl dd_X4_thingLimit rfl ⟨by decide, by decide⟩ ⟨Nat.le_refl 0, Nat.le_refl 0⟩ (Nat.le_of_ble_eq_true rfl) ?_
      obtain ⟨⟨r8, v8⟩, hc8, hF⟩ := jx_bind hF
      try dsimp only at hF
      refine jx_callSi (As := [.int x3, .int r7]) (st := []) E dX4_change_22 2 rfl (k_X4_within hI x3 r7 v7 r8 v8 hc8) (gb_S (List.mem_cons_of_mem _ tw_188) (List.mem_cons_of_mem _ tw_189) (List.mem_cons_of_mem _ tw_190) tw_187) rfl rfl rfl dd_X4_within rfl ⟨by decide, by decide⟩ ⟨Nat.le_refl 0, Nat.le_refl 0⟩ (Nat.le_of_ble_eq_true rfl) ?_
      refine jx_if_ne (tgt := 34) E dX4_change_25 (by decide) (fun hc9 => ?_) (fun hc9 => ?_)
      · rw [if_neg hc9] at hF
        refine jx_aload_n E dX4_change_34 0 rfl ?_
        refine jx_getr (C := RX4) (T := TX4) (M := 11) (k := 0) E dX4_change_35 (Nat.le_of_ble_eq_true rfl) s_X0 rfl iX4 (by decide) rfl (List.mem_cons_of_mem _ tw_195) rfl ?_
        refine jx_iload_n E dX4_change_38 1 rfl ?_
        obtain ⟨⟨r10, v10⟩, hc10, hF⟩ := jx_bind hF
        try dsimp only at hF
        refine jx_callNi (As := [.int x1]) (st := []) (h := 1) E dX4_change_39 1 rfl (k_X3_isTaken hI 1 jx_T1 x1 v8 r10 v10 hc10) (gb_N tw_51) rfl rfl rfl (ex_m4 (jx_ex E)) (List.mem_cons_of_mem _ tw_33) (List.mem_cons_of_mem _ tw_52) (List.mem_cons_of_mem _ tw_53) dd_X3_isTaken.2 rfl (Nat.le_of_ble_eq_true rfl) s_X1 rfl ⟨by decide, by decide⟩ ⟨Nat.le_refl 0, Nat.le_refl 0⟩ (Nat.le_of_ble_eq_true rfl) ?_
        refine jx_if_ne (tgt := 51) E dX4_change_42 (by decide) (fun hc11 => ?_) (fun hc11 => ?_)
        · rw [if_neg hc11] at hF
          refine jx_aload_n E dX4_change_51 0 rfl ?_
          refine jx_getr (C := RX4) (T := TX4) (M := 11) (k := 0) E dX4_change_52 (Nat.le_of_ble_eq_true rfl) s_X0 rfl iX4 (by decide) rfl (List.mem_cons_of_mem _ tw_195) rfl ?_
          refine jx_getrN (C := RX3) (T := TX3) (M := 8) (k := 0) E dX4_change_55 (Nat.le_of_ble_eq_true rfl) s_X1 rfl iX3 (by decide) rfl (ex_f0 (jx_ex E)) rfl ?_
          refine jx_iload_n E dX4_change_58 2 rfl ?_
          obtain ⟨hg12, hF⟩ := jx_guard hF
          refine jx_aald (h' := (1 + 3 + (x2).toNatClampNeg)) E dX4_change_59 (Nat.le_of_ble_eq_true rfl) s_X2 hg12 (l_Tr (t := 1) (l_lt hg12)) ?_
          refine jx_iload_n E dX4_change_60 1 rfl ?_
          obtain ⟨hg13, hF⟩ := jx_guard hF
          refine jx_iald (h := (1 + 3 + (x2).toNatClampNeg)) (j := (Int32.toNatClampNeg x1)) E dX4_change_61 (n_Tr jx_T1 (l_lt hg12)) (s_Tr jx_T1 (l_lt hg12)) hg13 rfl ?_
          refine jx_istore (lv' := [(4, .int (v10 (1 + 3 + (x2).toNatClampNeg) (Int32.toNatClampNeg x1))), (0, .ref (ad 0)), (1, .int x1), (2, .int x2), (3, .int x3)]) E dX4_change_62 (by decide) rfl ?_
          refine jx_aload_n E dX4_change_64 1 rfl ?_
          refine jx_getr (C := RX4) (T := TX4) (M := 11) (k := 0) E dX4_change_65 (Nat.le_of_ble_eq_true rfl) s_X0 rfl iX4 (by decide) rfl (List.mem_cons_of_mem _ tw_195) rfl ?_
          refine jx_getrN (C := RX3) (T := TX3) (M := 8) (k := 0) E dX4_change_68 (Nat.le_of_ble_eq_true rfl) s_X1 rfl iX3 (by decide) rfl (ex_f0 (jx_ex E)) rfl ?_
          refine jx_iload_n E dX4_change_71 3 rfl ?_
          obtain ⟨hg14, hF⟩ := jx_guard hF
          refine jx_aald (h' := (1 + 3 + (x2).toNatClampNeg)) E dX4_change_72 (Nat.le_of_ble_eq_true rfl) s_X2 hg14 (l_Tr (t := 1) (l_lt hg14)) ?_
          refine jx_iload_n E dX4_change_73 2 rfl ?_
          refine jx_iload_n E dX4_change_74 4 rfl ?_
          obtain ⟨hg15, hF⟩ := jx_guard hF
          refine jx_iast (h := (1 + 3 + (x2).toNatClampNeg)) (j := (Int32.toNatClampNeg x1)) E dX4_change_75 (n_Tr jx_T1 (l_lt hg14)) (s_Tr jx_T1 (l_lt hg14)) hg15 rfl ?_
          refine jx_iload E dX4_change_76 0 rfl ?_
          obtain ⟨rfl, rfl⟩ := jx_out hF
          exact jx_iret E dX4_change_78 rfl
        · rw [if_pos hc11] at hF
          refine jx_aload_n E dX4_change_45 0 rfl ?_
          refine jx_iconst (x := 3) E dX4_change_46 (by decide) ?_
          obtain ⟨⟨r16, v16⟩, hc16, hF⟩ := jx_bind hF
          try dsimp only at hF
          refine jx_callVi (As := [.int 3]) (st := []) (h := 0) E dX4_change_47 1 rfl (k_X4_finding hI 3 v10 r16 v16 hc16) (gb_V (List.mem_cons_of_mem _ tw_192) (List.mem_cons_of_mem _ tw_193) (List.mem_cons_of_mem _ tw_194) (List.mem_cons_of_mem _ tw_190) tw_191) rfl rfl rfl dd_X4_finding rfl (Nat.le_of_ble_eq_true rfl) s_X0 rfl ⟨by decide, by decide⟩ ⟨Nat.le_refl 0, Nat.le_refl 0⟩ (Nat.le_of_ble_eq_true rfl) ?_
          obtain ⟨rfl, rfl⟩ := jx_out hF
          exact jx_iret E dX4_change_50 rfl
      · rw [if_pos hc9] at hF
        refine jx_aload_n E dX4_change_28 0 rfl ?_
        refine jx_iconst (x := 0) E dX4_change_29 (by decide) ?_
        obtain ⟨⟨r17, v17⟩, hc17, hF⟩ := jx_bind hF
        try dsimp only at hF
        refine jx_callVi (As := [.int 0]) (st := []) (h := 0) E dX4_change_30 1 rfl (k_X4_finding hI 0 v8 r17 v17 hc17) (gb_V (List.mem_cons_of_mem _ tw_192) (List.mem_cons_of_mem _ tw_193) (List.mem_cons_of_mem _ tw_194) (List.mem_cons_of_mem _ tw_190) tw_191) rfl rfl rfl dd_X4_finding rfl (Nat.le_of_ble_eq_true rfl) s_X0 rfl ⟨by decide, by decide⟩ ⟨Nat.le_refl 0, Nat.le_refl 0⟩ (Nat.le_of_ble_eq_true rfl) ?_
        obtain ⟨rfl, rfl⟩ := jx_out hF
        exact jx_iret E dX4_change_33 rfl
def f_X4_price (x1 : Int32) (x2 : Int32) (v : jx_V) : Option (Int32 × jx_V) := ((f_X4_within x1 4 v).bind (fun (r1, v1) => (if r1 = 0 then ((f_X4_finding 0 v1).bind (fun (r3, v3) => (some (r3, v3)))) else ((f_X4_within x2 100 v1).bind (fun (r4, v4) => (if r4 = 0 then ((f_X4_finding 0 v4).bind (fun (r8, v8) => (some (r8, v8)))) else (if (x1 < 0 ∨ 4 ≤ Int32.toNatClampNeg x1) then none else (if (x1 < 0 ∨ 4 ≤ Int32.toNatClampNeg x1) then none else (some ((v4 14 (Int32.toNatClampNeg x1)), (jx_up v4 14 (Int32.toNatClampNeg x1) x2)))))))))))
def rm_X4_price : Room := { frames := 1, cells := 0, slots := 0, locals := 21 }
set_option maxHeartbeats 4000000 in
set_option maxRecDepth 100000 in
theorem k_X4_price {l : Launch} {D : va_G} {cI cJ : ClassId} {ad : Nat → Nat} {A : Nat → Prop} {adK adV : Nat → Nat} (hI : jx_inj 67 ad A) (x1 : Int32) (x2 : Int32) (v : jx_V) (r : Int32) (v' : jx_V) (hF : f_X4_price x1 x2 v = some (r, v')) : jx_Ci l D vwCl 67 cI cJ ad shX A (ex_X adK adV A) yX4_price (Cond.code yX4_price cX4_price 4 (some .int) :: bigT) rm_X4_price [.ref (ad 0), .int x1, .int x2] v r v' := by
  unfold f_X4_price at hF
  refine jx_enteri bigT RX4 cX4_price 4 (some .int) [(0, .ref (ad 0)), (1, .int x1), (2, .int x2)] hI (ex_X_ok adK adV A) (by decide +kernel) rfl (Nat.le_of_ble_eq_true rfl) rfl rfl ?_
  intro p e s m args below meth c E
  have iX3 : ∀ w ∈ u_ws RX3 TX3 8, w ∈ (Cond.code yX4_price cX4_price 4 (some .int) :: bigT) := fun w h => List.mem_cons_of_mem _ (uw_X3 w h)
  have iX4 : ∀ w ∈ u_ws RX4 TX4 11, w ∈ (Cond.code yX4_price cX4_price 4 (some .int) :: bigT) := fun w h => List.mem_cons_of_mem _ (uw_X4 w h)
  refine jx_iload_n E dX4_price_0 1 rfl ?_
  refine jx_iconst (x := 4) E dX4_price_1 (by decide) ?_
  obtain ⟨⟨r1, v1⟩, hc1, hF⟩ := jx_bind hF
  try dsimp only at hF
  refine jx_callSi (As := [.int x1, .int 4]) (st := []) E dX4_price_2 2 rfl (k_X4_within hI x1 4 v r1 v1 hc1) (gb_S (List.mem_cons_of_mem _ tw_188) (List.mem_cons_of_mem _ tw_189) (List.mem_cons_of_mem _ tw_190) tw_187) rfl rfl rfl dd_X4_within rfl ⟨by decide, by decide⟩ ⟨Nat.le_refl 0, Nat.le_refl 0⟩ (Nat.le_of_ble_eq_true rfl) ?_
  refine jx_if_eq (tgt := 17) E dX4_price_5 (by decide) (fun hc2 => ?_) (fun hc2 => ?_)
  · rw [if_pos hc2] at hF
    refine jx_aload_n E dX4_price_17 0 rfl ?_
    refine jx_iconst (x := 0) E dX4_price_18 (by decide) ?_
    obtain ⟨⟨r3, v3⟩, hc3, hF⟩ := jx_bind hF
    try dsimp only at hF
    refine jx_callVi (As := [.int 0]) (st := []) (h := 0) E dX4_price_19 1 rfl (k_X4_finding hI 0 v1 r3 v3 hc3) (gb_V (List.mem_cons_of_mem _ tw_192) (List.mem_cons_of_mem _ tw_193) (List.mem_cons_of_mem _ tw_194) (List.mem_cons_of_mem _ tw_190) tw_191) rfl rfl rfl dd_X4_finding rfl (Nat.le_of_ble_eq_true rfl) s_X0 rfl ⟨by decide, by decide⟩ ⟨Nat.le_refl 0, Nat.le_refl 0⟩ (Nat.le_of_ble_eq_true rfl) ?_
    obtain ⟨rfl, rfl⟩ := jx_out hF
    exact jx_iret E dX4_price_22 rfl
  · rw [if_neg hc2] at hF
    refine jx_iload_n E dX4_price_8 2 rfl ?_
    refine jx_bipush (x := 100) E dX4_price_9 (by decide) ?_
    obtain ⟨⟨r4, v4⟩, hc4, hF⟩ := jx_bind hF
    try dsimp only at hF
    refine jx_callSi (As := [.int x2, .int 100]) (st := []) E dX4_price_11 2 rfl (k_X4_within hI x2 100 v1 r4 v4 hc4) (gb_S (List.mem_cons_of_mem _ tw_188) (List.mem_cons_of_mem _ tw_189) (List.mem_cons_of_mem _ tw_190) tw_187) rfl rfl rfl dd_X4_within rfl ⟨by decide, by decide⟩ ⟨Nat.le_refl 0, Nat.le_refl 0⟩ (Nat.le_of_ble_eq_true rfl) ?_
    refine jx_if_ne (tgt := 23) E dX4_price_14 (by decide) (fun hc5 => ?_) (fun hc5 => ?_)
    · rw [if_neg hc5] at hF
      refine jx_aload_n E dX4_price_23 0 rfl ?_
      refine jx_getr (C := RX4) (T := TX4) (M := 11) (k := 0) E dX4_price_24 (Nat.le_of_ble_eq_true rfl) s_X0 rfl iX4 (by decide) rfl (List.mem_cons_of_mem _ tw_195) rfl ?_
      refine jx_getrN (C := RX3) (T := TX3) (M := 8) (k := 2) E dX4_price_27 (Nat.le_of_ble_eq_true rfl) s_X1 rfl iX3 (by decide) rfl (ex_f4 (jx_ex E)) rfl ?_
      refine jx_iload_n E dX4_price_30 1 rfl ?_
      obtain ⟨hg6, hF⟩ := jx_guard hF
      refine jx_iald (h := 14) (j := (Int32.toNatClampNeg x1)) E dX4_price_31 (Nat.le_of_ble_eq_true rfl) s_X14 hg6 rfl ?_
      refine jx_istore_n (lv' := [(3, .int (v4 14 (Int32.toNatClampNeg x1))), (0, .ref (ad 0)), (1, .int x1), (2, .int x2)]) E dX4_price_32 (by decide) rfl ?_
      refine jx_aload_n E dX4_price_33 1 rfl ?_
      refine jx_getr (C := RX4) (T := TX4) (M := 11) (k := 0) E dX4_price_34 (Nat.le_of_ble_eq_true rfl) s_X0 rfl iX4 (by decide) rfl (List.mem_cons_of_mem _ tw_195) rfl ?_
      refine jx_getrN (C := RX3) (T := TX3) (M := 8) (k := 2) E dX4_price_37 (Nat.le_of_ble_eq_true rfl) s_X1 rfl iX3 (by decide) rfl (ex_f4 (jx_ex E)) rfl ?_
      refine jx_iload_n E dX4_price_40 2 rfl ?_
      refine jx_iload_n E dX4_price_41 3 rfl ?_
      obtain ⟨hg7, hF⟩ := jx_guard hF
      refine jx_iast (h := 14) (j := (Int32.toNatClampNeg x1)) E dX4_price_42 (Nat.le_of_ble_eq_true rfl) s_X14 hg7 rfl ?_
      refine jx_iload_n E dX4_price_43 0 rfl ?_
      obtain ⟨rfl, rfl⟩ := jx_out hF
      exact jx_iret E dX4_price_44 rfl
    · rw [if_pos hc5] at hF
      refine jx_aload_n E dX4_price_17 0 rfl ?_
      refine jx_iconst (x := 0) E dX4_price_18 (by decide) ?_
      obtain ⟨⟨r8, v8⟩, hc8, hF⟩ := jx_bind hF
      try dsimp only at hF
      refine jx_callVi (As := [.int 0]) (st := []) (h := 0) E dX4_price_19 1 rfl (k_X4_finding hI 0 v4 r8 v8 hc8) (gb_V (List.mem_cons_of_mem _ tw_192) (List.mem_cons_of_mem _ tw_193) (List.mem_cons_of_mem _ tw_194) (List.mem_cons_of_mem _ tw_190) tw_191) rfl rfl rfl dd_X4_finding rfl (Nat.le_of_ble_eq_true rfl) s_X0 rfl ⟨by decide, by decide⟩ ⟨Nat.le_refl 0, Nat.le_refl 0⟩ (Nat.le_of_ble_eq_true rfl) ?_
      obtain ⟨rfl, rfl⟩ := jx_out hF
      exact jx_iret E dX4_price_22 rfl
def f_X4_window (x1 : Int32) (x2 : Int32) (x3 : Int32) (x4 : Int32) (v : jx_V) : Option (Int32 × jx_V) := ((f_X4_within x1 25 v).bind (fun (r1, v1) => (if r1 = 0 then ((f_X4_finding 0 v1).bind (fun (r3, v3) => (some (r3, v3)))) else ((f_X4_within x2 10 v1).bind (fun (r4, v4) => (if r4 = 0 then ((f_X4_finding 0 v4).bind (fun (r6, v6) => (some (r6, v6)))) else ((f_X4_within x3 4 v4).bind (fun (r7, v7) => (if r7 = 0 then ((f_X4_finding 0 v7).bind (fun (r9, v9) => (some (r9, v9)))) else ((f_X4_within x4 4 v7).bind (fun (r10, v10) => (if r10 = 0 then ((f_X4_finding 0 v10).bind (fun (r15, v15) => (some (r15, v15)))) else (if (v10 1 5) < 10 then ((f_X3_addWindow 1 x1 x2 x3 x4 v10).bind (fun v13 => (some (((v13 1 5) - 1), v13)))) else ((f_X4_finding 1 v10).bind (fun (r14, v14) => (some (r14, v14)))))))))))))))))
def rm_X4_window : Room := { frames := 1, cells := 0, slots := 0, locals := 24 }
set_option maxHeartbeats 4000000 in
set_option maxRecDepth 100000 in
theorem k_X4_window {l : Launch} {D : va_G} {cI cJ : ClassId} {ad : Nat → Nat} {A : Nat → Prop} {adK adV : Nat → Nat} (hI : jx_inj 67 ad A) (x1 : Int32) (x2 : Int32) (x3 : Int32) (x4 : Int32) (v : jx_V) (r : Int32) (v' : jx_V) (hF : f_X4_window x1 x2 x3 x4 v = some (r, v')) : jx_Ci l D vwCl 67 cI cJ ad shX A (ex_X adK adV A) yX4_window (Cond.code yX4_window cX4_window 5 (some .int) :: bigT) rm_X4_window [.ref (ad 0), .int x1, .int x2, .int x3, .int x4] v r v' := by
  unfold f_X4_window at hF
  refine jx_enteri bigT RX4 cX4_window 5 (some .int) [(0, .ref (ad 0)), (1, .int x1), (2, .int x2), (3, .int x3), (4, .int x4)] hI (ex_X_ok adK adV A) (by decide +kernel) rfl (Nat.le_of_ble_eq_true rfl) rfl rfl ?_
  intro p e s m args below meth c E
  have iX3 : ∀ w ∈ u_ws RX3 TX3 8, w ∈ (Cond.code yX4_window cX4_window 5 (some .int) :: bigT) := fun w h => List.mem_cons_of_mem _ (uw_X3 w h)
  have iX4 : ∀ w ∈ u_ws RX4 TX4 11, w ∈ (Cond.code yX4_window cX4_window 5 (some .int) :: bigT) := fun w h => List.mem_cons_of_mem _ (uw_X4 w h)
  refine jx_iload_n E dX4_window_0 1 rfl ?_
  refine jx_bipush (x := 25) E dX4_window_1 (by decide) ?_
  obtain ⟨⟨r1, v1⟩, hc1, hF⟩ := jx_bind hF
  try dsimp only at hF
  refine jx_callSi (As := [.int x1, .int 25]) (st := []) E dX4_window_3 2 rfl (k_X4_within hI x1 25 v r1 v1 hc1) (gb_S (List.mem_cons_of_mem _ tw_188) (List.mem_cons_of_mem _ tw_189) (List.mem_cons_of_mem _ tw_190) tw_187) rfl rfl rfl dd_X4_within rfl ⟨by decide, by decide⟩ ⟨Nat.le_refl 0, Nat.le_refl 0⟩ (Nat.le_of_ble_eq_true rfl) ?_
  refine jx_if_eq (tgt := 35) E dX4_window_6 (by decide) (fun hc2 => ?_) (fun hc2 => ?_)
  · rw [if_pos hc2] at hF
    refine jx_aload_n E dX4_window_35 0 rfl ?_
    refine jx_iconst (x := 0) E dX4_window_36 (by decide) ?_
    obtain ⟨⟨r3, v3⟩, hc3, hF⟩ := jx_bind hF
    try dsimp only at hF
    refine jx_callVi (As := [.int 0]) (st := []) (h := 0) E dX4_window_37 1 rfl (k_X4_finding hI 0 v1 r3 v3 hc3) (gb_V (List.mem_cons_of_mem _ tw_192) (List.mem_cons_of_mem _ tw_193) (List.mem_cons_of_mem _ tw_194) (List.mem_cons_of_mem _ tw_190) tw_191) rfl rfl rfl dd_X4_finding rfl (Nat.le_of_ble_eq_true rfl) s_X0 rfl ⟨by decide, by decide⟩ ⟨Nat.le_refl 0, Nat.le_refl 0⟩ (Nat.le_of_ble_eq_true rfl) ?_
    obtain ⟨rfl, rfl⟩ := jx_out hF
    exact jx_iret E dX4_window_40 rfl
  · rw [if_neg hc2] at hF
    refine jx_iload_n E dX4_window_9 2 rfl ?_
    refine jx_bipush (x := 10) E dX4_window_10 (by decide) ?_
    obtain ⟨⟨r4, v4⟩, hc4, hF⟩ := jx_bind hF
    try dsimp only at hF
    refine jx_callSi (As := [.int x2, .int 10]) (st := []) E dX4_window_12 2 rfl (k_X4_within hI x2 10 v1 r4 v4 hc4) (gb_S (List.mem_cons_of_mem _ tw_188) (List.mem_cons_of_mem _ tw_189) (List.mem_cons_of_mem _ tw_190) tw_187) rfl rfl rfl dd_X4_within rfl ⟨by decide, by decide⟩ ⟨Nat.le_refl 0, Nat.le_refl 0⟩ (Nat.le_of_ble_eq_true rfl) ?_
    refine jx_if_eq (tgt := 35) E dX4_window_15 (by decide) (fun hc5 => ?_) (fun hc5 => ?_)
    · rw [if_pos hc5] at hF
      refine jx_aload_n E dX4_window_35 0 rfl ?_
      refine jx_iconst (x := 0) E dX4_window_36 (by decide) ?_
      obtain ⟨⟨r6, v6⟩, hc6, hF⟩ := jx_bind hF
      try dsimp only at hF
      refine jx_callVi (As := [.int 0]) (st := []) (h := 0) E dX4_window_37 1 rfl (k_X4_finding hI 0 v4 r6 v6 hc6) (gb_V (List.mem_cons_of_mem _ tw_192) (List.mem_cons_of_mem _ tw_193) (List.mem_cons_of_mem _ tw_194) (List.mem_cons_of_mem _ tw_190) tw_191) rfl rfl rfl dd_X4_finding rfl (Nat.le_of_ble_eq_true rfl) s_X0 rfl ⟨by decide, by decide⟩ ⟨Nat.le_refl 0, Nat.le_refl 0⟩ (Nat.le_of_ble_eq_true rfl) ?_
      obtain ⟨rfl, rfl⟩ := jx_out hF
      exact jx_iret E dX4_window_40 rfl
    · rw [if_neg hc5] at hF
      refine jx_iload_n E dX4_window_18 3 rfl ?_
      refine jx_iconst (x := 4) E dX4_window_19 (by decide) ?_
      obtain ⟨⟨r7, v7⟩, hc7, hF⟩ := jx_bind hF
      try dsimp only at hF
      refine jx_callSi (As := [.int x3, .int 4]) (st := []) E dX4_window_20 2 rfl (k_X4_within hI x3 4 v4 r7 v7 hc7) (gb_S (List.mem_cons_of_mem _ tw_188) (List.mem_cons_of_mem _ tw_189) (List.mem_cons_of_mem _ tw_190) tw_187) rfl rfl rfl dd_X4_within rfl ⟨by decide, by decide⟩ ⟨Nat.le_refl 0, Nat.le_refl 0⟩ (Nat.le_of_ble_eq_true rfl) ?_
      refine jx_if_eq (tgt := 35) E dX4_window_23 (by decide) (fun hc8 => ?_) (fun hc8 => ?_)
      · rw [if_pos hc8] at hF
        refine jx_aload_n E dX4_window_35 0 rfl ?_
        refine jx_iconst (x := 0) E dX4_window_36 (by decide) ?_
        obtain ⟨⟨r9, v9⟩, hc9, hF⟩ := jx_bind hF
        try dsimp only at hF
        refine jx_callVi (As := [.int 0]) (st := []) (h := 0) E dX4_window_37 1 rfl (k_X4_finding hI 0 v7 r9 v9 hc9) (gb_V (List.mem_cons_of_mem _ tw_192) (List.mem_cons_of_mem _ tw_193) (List.mem_cons_of_mem _ tw_194) (List.mem_cons_of_mem _ tw_190) tw_191) rfl rfl rfl dd_X4_finding rfl (Nat.le_of_ble_eq_true rfl) s_X0 rfl ⟨by decide, by decide⟩ ⟨Nat.le_refl 0, Nat.le_refl 0⟩ (Nat.le_of_ble_eq_true rfl) ?_
        obtain ⟨rfl, rfl⟩ := jx_out hF
        exact jx_iret E dX4_window_40 rfl
      · rw [if_neg hc8] at hF
        refine jx_iload E dX4_window_26 4 rfl ?_
        refine jx_iconst (x := 4) E dX4_window_28 (by decide) ?_
        obtain ⟨⟨r10, v10⟩, hc10, hF⟩ := jx_bind hF
        try dsimp only at hF
        refine jx_callSi (As := [.int x4, .int 4]) (st := []) E dX4_window_29 2 rfl (k_X4_within hI x4 4 v7 r10 v10 hc10) (gb_S (List.mem_cons_of_mem _ tw_188) (List.mem_cons_of_mem _ tw_189) (List.mem_cons_of_mem _ tw_190) tw_187) rfl rfl rfl dd_X4_within rfl ⟨by decide, by decide⟩ ⟨Nat.le_refl 0, Nat.le_refl 0⟩ (Nat.le_of_ble_eq_true rfl) ?_
        refine jx_if_ne (tgt := 41) E dX4_window_32 (by decide) (fun hc11 => ?_) (fun hc11 => ?_)
        · rw [if_neg hc11] at hF
          refine jx_aload_n E dX4_window_41 0 rfl ?_
          refine jx_getr (C := RX4) (T := TX4) (M := 11) (k := 0) E dX4_window_42 (Nat.le_of_ble_eq_true rfl) s_X0 rfl iX4 (by decide) rfl (List.mem_cons_of_mem _ tw_195) rfl ?_
          refine jx_getiN (C := RX3) (T := TX3) (M := 8) (k := 5) E dX4_window_45 (Nat.le_of_ble_eq_true rfl) s_X1 rfl iX3 (by decide) rfl (ex_f10 (jx_ex E)) rfl ?_
          refine jx_bipush (x := 10) E dX4_window_48 (by decide) ?_
          refine jx_icmp_lt (tgt := 59) E dX4_window_50 (by decide) (fun hc12 => ?_) (fun hc12 => ?_)
          · rw [if_pos hc12] at hF
            refine jx_aload_n E dX4_window_59 0 rfl ?_
            refine jx_getr (C := RX4) (T := TX4) (M := 11) (k := 0) E dX4_window_60 (Nat.le_of_ble_eq_true rfl) s_X0 rfl iX4 (by decide) rfl (List.mem_cons_of_mem _ tw_195) rfl ?_
            refine jx_iload_n E dX4_window_63 1 rfl ?_
            refine jx_iload_n E dX4_window_64 2 rfl ?_
            refine jx_iload_n E dX4_window_65 3 rfl ?_
            refine jx_iload E dX4_window_66 4 rfl ?_
            obtain ⟨v13, hc13, hF⟩ := jx_bind hF
            try dsimp only at hF
            refine jx_callNv (As := [.int x1, .int x2, .int x3, .int x4]) (st := []) (h := 1) E dX4_window_68 4 rfl (k_X3_addWindow hI 1 jx_T1 x1 x2 x3 x4 v10 v13 hc13) (gb_N tw_142) rfl rfl rfl (ex_m11 (jx_ex E)) (List.mem_cons_of_mem _ tw_33) (List.mem_cons_of_mem _ tw_143) (List.mem_cons_of_mem _ tw_144) dd_X3_addWindow.2 rfl (Nat.le_of_ble_eq_true rfl) s_X1 rfl ⟨by decide, by decide⟩ ⟨Nat.le_refl 0, Nat.le_refl 0⟩ (Nat.le_of_ble_eq_true rfl) ?_
            refine jx_aload_n E dX4_window_71 0 rfl ?_
            refine jx_getr (C := RX4) (T := TX4) (M := 11) (k := 0) E dX4_window_72 (Nat.le_of_ble_eq_true rfl) s_X0 rfl iX4 (by decide) rfl (List.mem_cons_of_mem _ tw_195) rfl ?_
            refine jx_getiN (C := RX3) (T := TX3) (M := 8) (k := 5) E dX4_window_75 (Nat.le_of_ble_eq_true rfl) s_X1 rfl iX3 (by decide) rfl (ex_f10 (jx_ex E)) rfl ?_
            refine jx_iconst (x := 1) E dX4_window_78 (by decide) ?_
            refine jx_isub E dX4_window_79 ?_
            obtain ⟨rfl, rfl⟩ := jx_out hF
            exact jx_iret E dX4_window_80 rfl
          · rw [if_neg hc12] at hF
            refine jx_aload_n E dX4_window_53 0 rfl ?_
            refine jx_iconst (x := 1) E dX4_window_54 (by decide) ?_
            obtain ⟨⟨r14, v14⟩, hc14, hF⟩ := jx_bind hF
            try dsimp only at hF
            refine jx_callVi (As := [.int 1]) (st := []) (h := 0) E dX4_window_55 1 rfl (k_X4_finding hI 1 v10 r14 v14 hc14) (gb_V (List.mem_cons_of_mem _ tw_192) (List.mem_cons_of_mem _ tw_193) (List.mem_cons_of_mem _ tw_194) (List.mem_cons_of_mem _ tw_190) tw_191) rfl rfl rfl dd_X4_finding rfl (Nat.le_of_ble_eq_true rfl) s_X0 rfl ⟨by decide, by decide⟩ ⟨Nat.le_refl 0, Nat.le_refl 0⟩ (Nat.le_of_ble_eq_true rfl) ?_
            obtain ⟨rfl, rfl⟩ := jx_out hF
            exact jx_iret E dX4_window_58 rfl
        · rw [if_pos hc11] at hF
          refine jx_aload_n E dX4_window_35 0 rfl ?_
          refine jx_iconst (x := 0) E dX4_window_36 (by decide) ?_
          obtain ⟨⟨r15, v15⟩, hc15, hF⟩ := jx_bind hF
          try dsimp only at hF
          refine jx_callVi (As := [.int 0]) (st := []) (h := 0) E dX4_window_37 1 rfl (k_X4_finding hI 0 v10 r15 v15 hc15) (gb_V (List.mem_cons_of_mem _ tw_192) (List.mem_cons_of_mem _ tw_193) (List.mem_cons_of_mem _ tw_194) (List.mem_cons_of_mem _ tw_190) tw_191) rfl rfl rfl dd_X4_finding rfl (Nat.le_of_ble_eq_true rfl) s_X0 rfl ⟨by decide, by decide⟩ ⟨Nat.le_refl 0, Nat.le_refl 0⟩ (Nat.le_of_ble_eq_true rfl) ?_
          obtain ⟨rfl, rfl⟩ := jx_out hF
          exact jx_iret E dX4_window_40 rfl
def f_X4_isWindow (x1 : Int32) (v : jx_V) : Option (Int32 × jx_V) := ((f_X4_within x1 (v 1 5) v).bind (fun (r1, v1) => (if ¬ (r1 = 0 ∨ r1 = 1) then none else some (r1, v1))))
def rm_X4_isWindow : Room := { frames := 1, cells := 0, slots := 0, locals := 21 }
set_option maxHeartbeats 4000000 in
set_option maxRecDepth 100000 in
theorem k_X4_isWindow {l : Launch} {D : va_G} {cI cJ : ClassId} {ad : Nat → Nat} {A : Nat → Prop} {adK adV : Nat → Nat} (hI : jx_inj 67 ad A) (x1 : Int32) (v : jx_V) (r : Int32) (v' : jx_V) (hF : f_X4_isWindow x1 v = some (r, v')) : jx_Ci l D vwCl 67 cI cJ ad shX A (ex_X adK adV A) yX4_isWindow (Cond.code yX4_isWindow cX4_isWindow 2 (some .boolean) :: bigT) rm_X4_isWindow [.ref (ad 0), .int x1] v r v' := by
  unfold f_X4_isWindow at hF
  refine jx_enteri bigT RX4 cX4_isWindow 2 (some .boolean) [(0, .ref (ad 0)), (1, .int x1)] hI (ex_X_ok adK adV A) (by decide +kernel) rfl (Nat.le_of_ble_eq_true rfl) rfl rfl ?_
  intro p e s m args below meth c E
  have iX3 : ∀ w ∈ u_ws RX3 TX3 8, w ∈ (Cond.code yX4_isWindow cX4_isWindow 2 (some .boolean) :: bigT) := fun w h => List.mem_cons_of_mem _ (uw_X3 w h)
  have iX4 : ∀ w ∈ u_ws RX4 TX4 11, w ∈ (Cond.code yX4_isWindow cX4_isWindow 2 (some .boolean) :: bigT) := fun w h => List.mem_cons_of_mem _ (uw_X4 w h)
  refine jx_iload_n E dX4_isWindow_0 1 rfl ?_
  refine jx_aload_n E dX4_isWindow_1 0 rfl ?_
  refine jx_getr (C := RX4) (T := TX4) (M := 11) (k := 0) E dX4_isWindow_2 (Nat.le_of_ble_eq_true rfl) s_X0 rfl iX4 (by decide) rfl (List.mem_cons_of_mem _ tw_195) rfl ?_
  refine jx_getiN (C := RX3) (T := TX3) (M := 8) (k := 5) E dX4_isWindow_5 (Nat.le_of_ble_eq_true rfl) s_X1 rfl iX3 (by decide) rfl (ex_f10 (jx_ex E)) rfl ?_
  obtain ⟨⟨r1, v1⟩, hc1, hF⟩ := jx_bind hF
  try dsimp only at hF
  refine jx_callSi (As := [.int x1, .int (v 1 5)]) (st := []) E dX4_isWindow_8 2 rfl (k_X4_within hI x1 (v 1 5) v r1 v1 hc1) (gb_S (List.mem_cons_of_mem _ tw_188) (List.mem_cons_of_mem _ tw_189) (List.mem_cons_of_mem _ tw_190) tw_187) rfl rfl rfl dd_X4_within rfl ⟨by decide, by decide⟩ ⟨Nat.le_refl 0, Nat.le_refl 0⟩ (Nat.le_of_ble_eq_true rfl) ?_
  obtain ⟨hg2, hF⟩ := jx_guard hF
  obtain ⟨rfl, rfl⟩ := jx_out hF
  exact jx_zret E dX4_isWindow_11 rfl (Decidable.not_not.mp hg2)
def f_X4_windowOf (x1 : Int32) (x2 : Int32) (v : jx_V) : Option (Int32 × jx_V) := ((f_X4_isWindow x1 v).bind (fun (r1, v1) => (if r1 = 0 then ((f_X4_finding 0 v1).bind (fun (r3, v3) => (some (r3, v3)))) else ((f_X4_within x2 6 v1).bind (fun (r4, v4) => (if r4 = 0 then ((f_X4_finding 0 v4).bind (fun (r8, v8) => (some (r8, v8)))) else (if (x2 < 0 ∨ 6 ≤ (x2).toNatClampNeg) then none else (if (x1 < 0 ∨ 10 ≤ Int32.toNatClampNeg x1) then none else (some ((v4 (1 + 7 + (x2).toNatClampNeg) (Int32.toNatClampNeg x1)), v4))))))))))
def rm_X4_windowOf : Room := { frames := 2, cells := 0, slots := 0, locals := 42 }
set_option maxHeartbeats 4000000 in
set_option maxRecDepth 100000 in
theorem k_X4_windowOf {l : Launch} {D : va_G} {cI cJ : ClassId} {ad : Nat → Nat} {A : Nat → Prop} {adK adV : Nat → Nat} (hI : jx_inj 67 ad A) (x1 : Int32) (x2 : Int32) (v : jx_V) (r : Int32) (v' : jx_V) (hF : f_X4_windowOf x1 x2 v = some (r, v')) : jx_Ci l D vwCl 67 cI cJ ad shX A (ex_X adK adV A) yX4_windowOf (Cond.code yX4_windowOf cX4_windowOf 3 (some .int) :: bigT) rm_X4_windowOf [.ref (ad 0), .int x1, .int x2] v r v' := by
  unfold f_X4_windowOf at hF
  refine jx_enteri bigT RX4 cX4_windowOf 3 (some .int) [(0, .ref (ad 0)), (1, .int x1), (2, .int x2)] hI (ex_X_ok adK adV A) (by decide +kernel) rfl (Nat.le_of_ble_eq_true rfl) rfl rfl ?_
  intro p e s m args below meth c E
  have iX3 : ∀ w ∈ u_ws RX3 TX3 8, w ∈ (Cond.code yX4_windowOf cX4_windowOf 3 (some .int) :: bigT) := fun w h => List.mem_cons_of_mem _ (uw_X3 w h)
  have iX4 : ∀ w ∈ u_ws RX4 TX4 11, w ∈ (Cond.code yX4_windowOf cX4_windowOf 3 (some .int) :: bigT) := fun w h => List.mem_cons_of_mem _ (uw_X4 w h)
  refine jx_aload_n E dX4_windowOf_0 0 rfl ?_
  refine jx_iload_n E dX4_windowOf_1 1 rfl ?_
  obtain ⟨⟨r1, v1⟩, hc1, hF⟩ := jx_bind hF
  try dsimp only at hF
  refine jx_callVi (As := [.int x1]) (st := []) (h := 0) E dX4_windowOf_2 1 rfl (k_X4_isWindow hI x1 v r1 v1 hc1) (gb_V (List.mem_cons_of_mem _ tw_203) (List.mem_cons_of_mem _ tw_204) (List.mem_cons_of_mem _ tw_205) (List.mem_cons_of_mem _ tw_190) tw_202) rfl rfl rfl dd_X4_isWindow rfl (Nat.le_of_ble_eq_true rfl) s_X0 rfl ⟨by decide, by decide⟩ ⟨Nat.le_refl 0, Nat.le_refl 0⟩ (Nat.le_of_ble_eq_true rfl) ?_
  refine jx_if_eq (tgt := 17) E dX4_windowOf_5 (by decide) (fun hc2 => ?_) (fun hc2 => ?_)
  · rw [if_pos hc2] at hF
    refine jx_aload_n E dX4_windowOf_17 0 rfl ?_
    refine jx_iconst (x := 0) E dX4_windowOf_18 (by decide) ?_
    obtain ⟨⟨r3, v3⟩, hc3, hF⟩ := jx_bind hF
    try dsimp only at hF
    refine jx_callVi (As := [.int 0]) (st := []) (h := 0) E dX4_windowOf_19 1 rfl (k_X4_finding hI 0 v1 r3 v3 hc3) (gb_V (List.mem_cons_of_mem _ tw_192) (List.mem_cons_of_mem _ tw_193) (List.mem_cons_of_mem _ tw_194) (List.mem_cons_of_mem _ tw_190) tw_191) rfl rfl rfl dd_X4_finding rfl (Nat.le_of_ble_eq_true rfl) s_X0 rfl ⟨by decide, by decide⟩ ⟨Nat.le_refl 0, Nat.le_refl 0⟩ (Nat.le_of_ble_eq_true rfl) ?_
    obtain ⟨rfl, rfl⟩ := jx_out hF
    exact jx_iret E dX4_windowOf_22 rfl
  · rw [if_neg hc2] at hF
    refine jx_iload_n E dX4_windowOf_8 2 rfl ?_
    refine jx_bipush (x := 6) E dX4_windowOf_9 (by decide) ?_
    obtain ⟨⟨r4, v4⟩, hc4, hF⟩ := jx_bind hF
    try dsimp only at hF
    refine jx_callSi (As := [.int x2, .int 6]) (st := []) E dX4_windowOf_11 2 rfl (k_X4_within hI x2 6 v1 r4 v4 hc4) (gb_S (List.mem_cons_of_mem _ tw_188) (List.mem_cons_of_mem _ tw_189) (List.mem_cons_of_mem _ tw_190) tw_187) rfl rfl rfl dd_X4_within rfl ⟨by decide, by decide⟩ ⟨Nat.le_refl 0, Nat.le_refl 0⟩ (Nat.le_of_ble_eq_true rfl) ?_
    refine jx_if_ne (tgt := 23) E dX4_windowOf_14 (by decide) (fun hc5 => ?_) (fun hc5 => ?_)
    · rw [if_neg hc5] at hF
      refine jx_aload_n E dX4_windowOf_23 0 rfl ?_
      refine jx_getr (C := RX4) (T := TX4) (M := 11) (k := 0) E dX4_windowOf_24 (Nat.le_of_ble_eq_true rfl) s_X0 rfl iX4 (by decide) rfl (List.mem_cons_of_mem _ tw_195) rfl ?_
      refine jx_getrN (C := RX3) (T := TX3) (M := 8) (k := 1) E dX4_windowOf_27 (Nat.le_of_ble_eq_true rfl) s_X1 rfl iX3 (by decide) rfl (ex_f3 (jx_ex E)) rfl ?_
      refine jx_iload_n E dX4_windowOf_30 2 rfl ?_
      obtain ⟨hg6, hF⟩ := jx_guard hF
      refine jx_aald (h' := (1 + 7 + (x2).toNatClampNeg)) E dX4_windowOf_31 (Nat.le_of_ble_eq_true rfl) s_X3 hg6 (l_Tw (t := 1) (l_lt hg6)) ?_
      refine jx_iload_n E dX4_windowOf_32 1 rfl ?_
      obtain ⟨hg7, hF⟩ := jx_guard hF
      refine jx_iald (h := (1 + 7 + (x2).toNatClampNeg)) (j := (Int32.toNatClampNeg x1)) E dX4_windowOf_33 (n_Tw jx_T1 (l_lt hg6)) (s_Tw jx_T1 (l_lt hg6)) hg7 rfl ?_
      obtain ⟨rfl, rfl⟩ := jx_out hF
      exact jx_iret E dX4_windowOf_34 rfl
    · rw [if_pos hc5] at hF
      refine jx_aload_n E dX4_windowOf_17 0 rfl ?_
      refine jx_iconst (x := 0) E dX4_windowOf_18 (by decide) ?_
      obtain ⟨⟨r8, v8⟩, hc8, hF⟩ := jx_bind hF
      try dsimp only at hF
      refine jx_callVi (As := [.int 0]) (st := []) (h := 0) E dX4_windowOf_19 1 rfl (k_X4_finding hI 0 v4 r8 v8 hc8) (gb_V (List.mem_cons_of_mem _ tw_192) (List.mem_cons_of_mem _ tw_193) (List.mem_cons_of_mem _ tw_194) (List.mem_cons_of_mem _ tw_190) tw_191) rfl rfl rfl dd_X4_finding rfl (Nat.le_of_ble_eq_true rfl) s_X0 rfl ⟨by decide, by decide⟩ ⟨Nat.le_refl 0, Nat.le_refl 0⟩ (Nat.le_of_ble_eq_true rfl) ?_
      obtain ⟨rfl, rfl⟩ := jx_out hF
      exact jx_iret E dX4_windowOf_22 rfl
def f_X4_windowLimit (x0 : Int32) (v : jx_V) : Option (Int32 × jx_V) := (if x0 = 1 then (some (10, v)) else (if x0 = 2 then (some (4, v)) else (some (4, v))))
def rm_X4_windowLimit : Room := { frames := 0, cells := 0, slots := 0, locals := 0 }
set_option maxHeartbeats 4000000 in
set_option maxRecDepth 100000 in
theorem k_X4_windowLimit {l : Launch} {D : va_G} {cI cJ : ClassId} {ad : Nat → Nat} {A : Nat → Prop} {adK adV : Nat → Nat} (hI : jx_inj 67 ad A) (x0 : Int32) (v : jx_V) (r : Int32) (v' : jx_V) (hF : f_X4_windowLimit x0 v = some (r, v')) : jx_Ci l D vwCl 67 cI cJ ad shX A (ex_X adK adV A) yX4_windowLimit (Cond.code yX4_windowLimit cX4_windowLimit 1 (some .int) :: bigT) rm_X4_windowLimit [.int x0] v r v' := by
  unfold f_X4_windowLimit at hF
  refine jx_enteri bigT RX4 cX4_windowLimit 1 (some .int) [(0, .int x0)] hI (ex_X_ok adK adV A) (by decide +kernel) rfl (Nat.le_of_ble_eq_true rfl) rfl rfl ?_
  intro p e s m args below meth c E
  refine jx_iload_n E dX4_windowLimit_0 0 rfl ?_
  by_cases hc1 : x0 = 1
  · rw [if_pos hc1] at hF
    refine jx_lookup (tgt := 28) (off := 27) E dX4_windowLimit_1 rfl (by rw [hc1]; rfl) (by decide) ?_
    refine jx_bipush (x := 10) E dX4_windowLimit_28 (by decide) ?_
    obtain ⟨rfl, rfl⟩ := jx_out hF
    exact jx_iret E dX4_windowLimit_30 rfl
  rw [if_neg hc1] at hF
  by_cases hc2 : x0 = 2
  · rw [if_pos hc2] at hF
    refine jx_lookup (tgt := 31) (off := 30) E dX4_windowLimit_1 rfl (by rw [hc2]; rfl) (by decide) ?_
    refine jx_iconst (x := 4) E dX4_windowLimit_31 (by decide) ?_
    obtain ⟨rfl, rfl⟩ := jx_out hF
    exact jx_iret E dX4_windowLimit_32 rfl
  rw [if_neg hc2] at hF
  refine jx_lookup (tgt := 33) (off := 32) E dX4_windowLimit_1 rfl (by have hz1 := jx_ne hc1 (k := 1) (by decide); have hy1 : ¬ (1 : Int) = Int32.toInt x0 := fun q => hz1 q.symm; have hz2 := jx_ne hc2 (k := 2) (by decide); have hy2 : ¬ (2 : Int) = Int32.toInt x0 := fun q => hz2 q.symm; simp [Op.lookupswitch.offset, hz1, hy1, hz2, hy2]) (by decide) ?_
  refine jx_iconst (x := 4) E dX4_windowLimit_33 (by decide) ?_
  obtain ⟨rfl, rfl⟩ := jx_out hF
  exact jx_iret E dX4_windowLimit_34 rfl
def f_X4_turn (x1 : Int32) (x2 : Int32) (x3 : Int32) (v : jx_V) : Option (Int32 × jx_V) := ((f_X4_isWindow x1 v).bind (fun (r1, v1) => (if r1 = 0 then ((f_X4_finding 0 v1).bind (fun (r3, v3) => (some (r3, v3)))) else (if x2 < 1 then ((f_X4_finding 0 v1).bind (fun (r5, v5) => (some (r5, v5)))) else (if 3 < x2 then ((f_X4_finding 0 v1).bind (fun (r7, v7) => (some (r7, v7)))) else ((f_X4_windowLimit x2 v1).bind (fun (r8, v8) => ((f_X4_within x3 r8 v8).bind (fun (r9, v9) => (if r9 = 0 then ((f_X4_finding 0 v9).bind (fun (r15, v15) => (some (r15, v15)))) else (if (x2 < 0 ∨ 6 ≤ (x2).toNatClampNeg) then none else (if (x1 < 0 ∨ 10 ≤ Int32.toNatClampNeg x1) then none else (if (x2 < 0 ∨ 6 ≤ (x2).toNatClampNeg) then none else (if (x1 < 0 ∨ 10 ≤ Int32.toNatClampNeg x1) then none else (some ((v9 (1 + 7 + (x2).toNatClampNeg) (Int32.toNatClampNeg x1)), (jx_up v9 (1 + 7 + (x2).toNatClampNeg) (Int32.toNatClampNeg x1) x3)))))))))))))))))
def rm_X4_turn : Room := { frames := 2, cells := 0, slots := 0, locals := 42 }
set_option maxHeartbeats 4000000 in
set_option maxRecDepth 100000 in
theorem k_X4_turn {l : Launch} {D : va_G} {cI cJ : ClassId} {ad : Nat → Nat} {A : Nat → Prop} {adK adV : Nat → Nat} (hI : jx_inj 67 ad A) (x1 : Int32) (x2 : Int32) (x3 : Int32) (v : jx_V) (r : Int32) (v' : jx_V) (hF : f_X4_turn x1 x2 x3 v = some (r, v')) : jx_Ci l D vwCl 67 cI cJ ad shX A (ex_X adK adV A) yX4_turn (Cond.code yX4_turn cX4_turn 5 (some .int) :: bigT) rm_X4_turn [.ref (ad 0), .int x1, .int x2, .int x3] v r v' := by
  unfold f_X4_turn at hF
  refine jx_enteri bigT RX4 cX4_turn 5 (some .int) [(0, .ref (ad 0)), (1, .int x1), (2, .int x2), (3, .int x3)] hI (ex_X_ok adK adV A) (by decide +kernel) rfl (Nat.le_of_ble_eq_true rfl) rfl rfl ?_
  intro p e s m args below meth c E
  have iX3 : ∀ w ∈ u_ws RX3 TX3 8, w ∈ (Cond.code yX4_turn cX4_turn 5 (some .int) :: bigT) := fun w h => List.mem_cons_of_mem _ (uw_X3 w h)
  have iX4 : ∀ w ∈ u_ws RX4 TX4 11, w ∈ (Cond.code yX4_turn cX4_turn 5 (some .int) :: bigT) := fun w h => List.mem_cons_of_mem _ (uw_X4 w h)
  refine jx_aload_n E dX4_turn_0 0 rfl ?_
  refine jx_iload_n E dX4_turn_1 1 rfl ?_
  obtain ⟨⟨r1, v1⟩, hc1, hF⟩ := jx_bind hF
  try dsimp only at hF
  refine jx_callVi (As := [.int x1]) (st := []) (h := 0) E dX4_turn_2 1 rfl (k_X4_isWindow hI x1 v r1 v1 hc1) (gb_V (List.mem_cons_of_mem _ tw_203) (List.mem_cons_of_mem _ tw_204) (List.mem_cons_of_mem _ tw_205) (List.mem_cons_of_mem _ tw_190) tw_202) rfl rfl rfl dd_X4_isWindow rfl (Nat.le_of_ble_eq_true rfl) s_X0 rfl ⟨by decide, by decide⟩ ⟨Nat.le_refl 0, Nat.le_refl 0⟩ (Nat.le_of_ble_eq_true rfl) ?_
  refine jx_if_eq (tgt := 29) E dX4_turn_5 (by decide) (fun hc2 => ?_) (fun hc2 => ?_)
  · rw [if_pos hc2] at hF
    refine jx_aload_n E dX4_turn_29 0 rfl ?_
    refine jx_iconst (x := 0) E dX4_turn_30 (by decide) ?_
    obtain ⟨⟨r3, v3⟩, hc3, hF⟩ := jx_bind hF
    try dsimp only at hF
    refine jx_callVi (As := [.int 0]) (st := []) (h := 0) E dX4_turn_31 1 rfl (k_X4_finding hI 0 v1 r3 v3 hc3) (gb_V (List.mem_cons_of_mem _ tw_192) (List.mem_cons_of_mem _ tw_193) (List.mem_cons_of_mem _ tw_194) (List.mem_cons_of_mem _ tw_190) tw_191) rfl rfl rfl dd_X4_finding rfl (Nat.le_of_ble_eq_true rfl) s_X0 rfl ⟨by decide, by decide⟩ ⟨Nat.le_refl 0, Nat.le_refl 0⟩ (Nat.le_of_ble_eq_true rfl) ?_
    obtain ⟨rfl, rfl⟩ := jx_out hF
    exact jx_iret E dX4_turn_34 rfl
  · rw [if_neg hc2] at hF
    refine jx_iload_n E dX4_turn_8 2 rfl ?_
    refine jx_iconst (x := 1) E dX4_turn_9 (by decide) ?_
    refine jx_icmp_lt (tgt := 29) E dX4_turn_10 (by decide) (fun hc4 => ?_) (fun hc4 => ?_)
    · rw [if_pos hc4] at hF
      refine jx_aload_n E dX4_turn_29 0 rfl ?_
      refine jx_iconst (x := 0) E dX4_turn_30 (by decide) ?_
      obtain ⟨⟨r5, v5⟩, hc5, hF⟩ := jx_bind hF
      try dsimp only at hF
      refine jx_callVi (As := [.int 0]) (st := []) (h := 0) E dX4_turn_31 1 rfl (k_X4_finding hI 0 v1 r5 v5 hc5) (gb_V (List.mem_cons_of_mem _ tw_192) (List.mem_cons_of_mem _ tw_193) (List.mem_cons_of_mem _ tw_194) (List.mem_cons_of_mem _ tw_190) tw_191) rfl rfl rfl dd_X4_finding rfl (Nat.le_of_ble_eq_true rfl) s_X0 rfl ⟨by decide, by decide⟩ ⟨Nat.le_refl 0, Nat.le_refl 0⟩ (Nat.le_of_ble_eq_true rfl) ?_
      obtain ⟨rfl, rfl⟩ := jx_out hF
      exact jx_iret E dX4_turn_34 rfl
    · rw [if_neg hc4] at hF
      refine jx_iload_n E dX4_turn_13 2 rfl ?_
      refine jx_iconst (x := 3) E dX4_turn_14 (by decide) ?_
      refine jx_icmp_gt (tgt := 29) E dX4_turn_15 (by decide) (fun hc6 => ?_) (fun hc6 => ?_)
      · rw [if_pos hc6] at hF
        refine jx_aload_n E dX4_turn_29 0 rfl ?_
        refine jx_iconst (x := 0) E dX4_turn_30 (by decide) ?_
        obtain ⟨⟨r7, v7⟩, hc7, hF⟩ := jx_bind hF
        try dsimp only at hF
        refine jx_callVi (As := [.int 0]) (st := []) (h := 0) E dX4_turn_31 1 rfl (k_X4_finding hI 0 v1 r7 v7 hc7) (gb_V (List.mem_cons_of_mem _ tw_192) (List.mem_cons_of_mem _ tw_193) (List.mem_cons_of_mem _ tw_194) (List.mem_cons_of_mem _ tw_190) tw_191) rfl rfl rfl dd_X4_finding rfl (Nat.le_of_ble_eq_true rfl) s_X0 rfl ⟨by decide, by decide⟩ ⟨Nat.le_refl 0, Nat.le_refl 0⟩ (Nat.le_of_ble_eq_true rfl) ?_
        obtain ⟨rfl, rfl⟩ := jx_out hF
        exact jx_iret E dX4_turn_34 rfl
      · rw [if_neg hc6] at hF
        refine jx_iload_n E dX4_turn_18 3 rfl ?_
        refine jx_iload_n E dX4_turn_19 2 rfl ?_
        obtain ⟨⟨r8, v8⟩, hc8, hF⟩ := jx_bind hF
        try dsimp only at hF
        refine jx_callSi (As := [.int x2]) (st := [.int x3]) E dX4_turn_20 1 rfl (k_X4_windowLimit hI x2 v1 r8 v8 hc8) (gb_S (List.mem_cons_of_mem _ tw_207) (List.mem_cons_of_mem _ tw_208) (List.mem_cons_of_mem _ tw_190) tw_206) rfl rfl rfl dd_X4_windowLimit rfl ⟨by decide, by decide⟩ ⟨Nat.le_refl 0, Nat.le_refl 0⟩ (Nat.le_of_ble_eq_true rfl) ?_
        obtain ⟨⟨r9, v9⟩, hc9, hF⟩ := jx_bind hF
        try dsimp only at hF
        refine jx_callSi (As := [.int x3, .int r8]) (st := []) E dX4_turn_23 2 rfl (k_X4_within hI x3 r8 v8 r9 v9 hc9) (gb_S (List.mem_cons_of_mem _ tw_188) (List.mem_cons_of_mem _ tw_189) (List.mem_cons_of_mem _ tw_190) tw_187) rfl rfl rfl dd_X4_within rfl ⟨by decide, by decide⟩ ⟨Nat.le_refl 0, Nat.le_refl 0⟩ (Nat.le_of_ble_eq_true rfl) ?_
        refine jx_if_ne (tgt := 35) E dX4_turn_26 (by decide) (fun hc10 => ?_) (fun hc10 => ?_)
        · rw [if_neg hc10] at hF
          refine jx_aload_n E dX4_turn_35 0 rfl ?_
          refine jx_getr (C := RX4) (T := TX4) (M := 11) (k := 0) E dX4_turn_36 (Nat.le_of_ble_eq_true rfl) s_X0 rfl iX4 (by decide) rfl (List.mem_cons_of_mem _ tw_195) rfl ?_
          refine jx_getrN (C := RX3) (T := TX3) (M := 8) (k := 1) E dX4_turn_39 (Nat.le_of_ble_eq_true rfl) s_X1 rfl iX3 (by decide) rfl (ex_f3 (jx_ex E)) rfl ?_
          refine jx_iload_n E dX4_turn_42 2 rfl ?_
          obtain ⟨hg11, hF⟩ := jx_guard hF
          refine jx_aald (h' := (1 + 7 + (x2).toNatClampNeg)) E dX4_turn_43 (Nat.le_of_ble_eq_true rfl) s_X3 hg11 (l_Tw (t := 1) (l_lt hg11)) ?_
          refine jx_iload_n E dX4_turn_44 1 rfl ?_
          obtain ⟨hg12, hF⟩ := jx_guard hF
          refine jx_iald (h := (1 + 7 + (x2).toNatClampNeg)) (j := (Int32.toNatClampNeg x1)) E dX4_turn_45 (n_Tw jx_T1 (l_lt hg11)) (s_Tw jx_T1 (l_lt hg11)) hg12 rfl ?_
          refine jx_istore (lv' := [(4, .int (v9 (1 + 7 + (x2).toNatClampNeg) (Int32.toNatClampNeg x1))), (0, .ref (ad 0)), (1, .int x1), (2, .int x2), (3, .int x3)]) E dX4_turn_46 (by decide) rfl ?_
          refine jx_aload_n E dX4_turn_48 1 rfl ?_
          refine jx_getr (C := RX4) (T := TX4) (M := 11) (k := 0) E dX4_turn_49 (Nat.le_of_ble_eq_true rfl) s_X0 rfl iX4 (by decide) rfl (List.mem_cons_of_mem _ tw_195) rfl ?_
          refine jx_getrN (C := RX3) (T := TX3) (M := 8) (k := 1) E dX4_turn_52 (Nat.le_of_ble_eq_true rfl) s_X1 rfl iX3 (by decide) rfl (ex_f3 (jx_ex E)) rfl ?_
          refine jx_iload_n E dX4_turn_55 3 rfl ?_
          obtain ⟨hg13, hF⟩ := jx_guard hF
          refine jx_aald (h' := (1 + 7 + (x2).toNatClampNeg)) E dX4_turn_56 (Nat.le_of_ble_eq_true rfl) s_X3 hg13 (l_Tw (t := 1) (l_lt hg13)) ?_
          refine jx_iload_n E dX4_turn_57 2 rfl ?_
          refine jx_iload_n E dX4_turn_58 4 rfl ?_
          obtain ⟨hg14, hF⟩ := jx_guard hF
          refine jx_iast (h := (1 + 7 + (x2).toNatClampNeg)) (j := (Int32.toNatClampNeg x1)) E dX4_turn_59 (n_Tw jx_T1 (l_lt hg13)) (s_Tw jx_T1 (l_lt hg13)) hg14 rfl ?_
          refine jx_iload E dX4_turn_60 0 rfl ?_
          obtain ⟨rfl, rfl⟩ := jx_out hF
          exact jx_iret E dX4_turn_62 rfl
        · rw [if_pos hc10] at hF
          refine jx_aload_n E dX4_turn_29 0 rfl ?_
          refine jx_iconst (x := 0) E dX4_turn_30 (by decide) ?_
          obtain ⟨⟨r15, v15⟩, hc15, hF⟩ := jx_bind hF
          try dsimp only at hF
          refine jx_callVi (As := [.int 0]) (st := []) (h := 0) E dX4_turn_31 1 rfl (k_X4_finding hI 0 v9 r15 v15 hc15) (gb_V (List.mem_cons_of_mem _ tw_192) (List.mem_cons_of_mem _ tw_193) (List.mem_cons_of_mem _ tw_194) (List.mem_cons_of_mem _ tw_190) tw_191) rfl rfl rfl dd_X4_finding rfl (Nat.le_of_ble_eq_true rfl) s_X0 rfl ⟨by decide, by decide⟩ ⟨Nat.le_refl 0, Nat.le_refl 0⟩ (Nat.le_of_ble_eq_true rfl) ?_
          obtain ⟨rfl, rfl⟩ := jx_out hF
          exact jx_iret E dX4_turn_34 rfl
def f_X4_contract (x1 : Int32) (x2 : Int32) (x3 : Int32) (v : jx_V) : Option (Int32 × jx_V) := ((f_X4_isWindow x1 v).bind (fun (r1, v1) => (if r1 = 0 then ((f_X4_finding 0 v1).bind (fun (r3, v3) => (some (r3, v3)))) else (if x2 < (-1) then ((f_X4_finding 0 v1).bind (fun (r5, v5) => (some (r5, v5)))) else (if 4 ≤ x2 then ((f_X4_finding 0 v1).bind (fun (r7, v7) => (some (r7, v7)))) else ((f_X4_within x3 37 v1).bind (fun (r8, v8) => (if r8 = 0 then ((f_X4_finding 0 v8).bind (fun (r18, v18) => (some (r18, v18)))) else (if (x1 < 0 ∨ 10 ≤ Int32.toNatClampNeg x1) then none else (if 0 ≤ x2 then (if (x1 < 0 ∨ 10 ≤ Int32.toNatClampNeg x1) then none else ((f_X0_isBroken 1 x1 (jx_up (jx_up v8 12 (Int32.toNatClampNeg x1) x2) 13 (Int32.toNatClampNeg x1) x3)).bind (fun (r13, v13) => (if r13 = 0 then (some (0, v13)) else (some (1, v13)))))) else (if (x1 < 0 ∨ 10 ≤ Int32.toNatClampNeg x1) then none else ((f_X0_isBroken 1 x1 (jx_up (jx_up v8 12 (Int32.toNatClampNeg x1) x2) 13 (Int32.toNatClampNeg x1) 0)).bind (fun (r16, v16) => (if r16 = 0 then (some (0, v16)) else (some (1, v16))))))))))))))))
def rm_X4_contract : Room := { frames := 5, cells := 0, slots := 0, locals := 121 }
set_option maxHeartbeats 4000000 in
set_option maxRecDepth 100000 in
theorem k_X4_contract {l : Launch} {D : va_G} {cI cJ : ClassId} {ad : Nat → Nat} {A : Nat → Prop} {adK adV : Nat → Nat} (hI : jx_inj 67 ad A) (x1 : Int32) (x2 : Int32) (x3 : Int32) (v : jx_V) (r : Int32) (v' : jx_V) (hF : f_X4_contract x1 x2 x3 v = some (r, v')) : jx_Ci l D vwCl 67 cI cJ ad shX A (ex_X adK adV A) yX4_contract (Cond.code yX4_contract cX4_contract 4 (some .int) :: bigT) rm_X4_contract [.ref (ad 0), .int x1, .int x2, .int x3] v r v' := by
  unfold f_X4_contract at hF
  refine jx_enteri bigT RX4 cX4_contract 4 (some .int) [(0, .ref (ad 0)), (1, .int x1), (2, .int x2), (3, .int x3)] hI (ex_X_ok adK adV A) (by decide +kernel) rfl (Nat.le_of_ble_eq_true rfl) rfl rfl ?_
  intro p e s m args below meth c E
  have iX3 : ∀ w ∈ u_ws RX3 TX3 8, w ∈ (Cond.code yX4_contract cX4_contract 4 (some .int) :: bigT) := fun w h => List.mem_cons_of_mem _ (uw_X3 w h)
  have iX4 : ∀ w ∈ u_ws RX4 TX4 11, w ∈ (Cond.code yX4_contract cX4_contract 4 (some .int) :: bigT) := fun w h => List.mem_cons_of_mem _ (uw_X4 w h)
  refine jx_aload_n E dX4_contract_0 0 rfl ?_
  refine jx_iload_n E dX4_contract_1 1 rfl ?_
  obtain ⟨⟨r1, v1⟩, hc1, hF⟩ := jx_bind hF
  try dsimp only at hF
  refine jx_callVi (As := [.int x1]) (st := []) (h := 0) E dX4_contract_2 1 rfl (k_X4_isWindow hI x1 v r1 v1 hc1) (gb_V (List.mem_cons_of_mem _ tw_203) (List.mem_cons_of_mem _ tw_204) (List.mem_cons_of_mem _ tw_205) (List.mem_cons_of_mem _ tw_190) tw_202) rfl rfl rfl dd_X4_isWindow rfl (Nat.le_of_ble_eq_true rfl) s_X0 rfl ⟨by decide, by decide⟩ ⟨Nat.le_refl 0, Nat.le_refl 0⟩ (Nat.le_of_ble_eq_true rfl) ?_
  refine jx_if_eq (tgt := 27) E dX4_contract_5 (by decide) (fun hc2 => ?_) (fun hc2 => ?_)
  · rw [if_pos hc2] at hF
    refine jx_aload_n E dX4_contract_27 0 rfl ?_
    refine jx_iconst (x := 0) E dX4_contract_28 (by decide) ?_
    obtain ⟨⟨r3, v3⟩, hc3, hF⟩ := jx_bind hF
    try dsimp only at hF
    refine jx_callVi (As := [.int 0]) (st := []) (h := 0) E dX4_contract_29 1 rfl (k_X4_finding hI 0 v1 r3 v3 hc3) (gb_V (List.mem_cons_of_mem _ tw_192) (List.mem_cons_of_mem _ tw_193) (List.mem_cons_of_mem _ tw_194) (List.mem_cons_of_mem _ tw_190) tw_191) rfl rfl rfl dd_X4_finding rfl (Nat.le_of_ble_eq_true rfl) s_X0 rfl ⟨by decide, by decide⟩ ⟨Nat.le_refl 0, Nat.le_refl 0⟩ (Nat.le_of_ble_eq_true rfl) ?_
    obtain ⟨rfl, rfl⟩ := jx_out hF
    exact jx_iret E dX4_contract_32 rfl
  · rw [if_neg hc2] at hF
    refine jx_iload_n E dX4_contract_8 2 rfl ?_
    refine jx_iconst (x := -1) E dX4_contract_9 (by decide) ?_
    refine jx_icmp_lt (tgt := 27) E dX4_contract_10 (by decide) (fun hc4 => ?_) (fun hc4 => ?_)
    · rw [if_pos hc4] at hF
      refine jx_aload_n E dX4_contract_27 0 rfl ?_
      refine jx_iconst (x := 0) E dX4_contract_28 (by decide) ?_
      obtain ⟨⟨r5, v5⟩, hc5, hF⟩ := jx_bind hF
      try dsimp only at hF
      refine jx_callVi (As := [.int 0]) (st := []) (h := 0) E dX4_contract_29 1 rfl (k_X4_finding hI 0 v1 r5 v5 hc5) (gb_V (List.mem_cons_of_mem _ tw_192) (List.mem_cons_of_mem _ tw_193) (List.mem_cons_of_mem _ tw_194) (List.mem_cons_of_mem _ tw_190) tw_191) rfl rfl rfl dd_X4_finding rfl (Nat.le_of_ble_eq_true rfl) s_X0 rfl ⟨by decide, by decide⟩ ⟨Nat.le_refl 0, Nat.le_refl 0⟩ (Nat.le_of_ble_eq_true rfl) ?_
      obtain ⟨rfl, rfl⟩ := jx_out hF
      exact jx_iret E dX4_contract_32 rfl
    · rw [if_neg hc4] at hF
      refine jx_iload_n E dX4_contract_13 2 rfl ?_
      refine jx_iconst (x := 4) E dX4_contract_14 (by decide) ?_
      refine jx_icmp_ge (tgt := 27) E dX4_contract_15 (by decide) (fun hc6 => ?_) (fun hc6 => ?_)
      · rw [if_pos hc6] at hF
        refine jx_aload_n E dX4_contract_27 0 rfl ?_
        refine jx_iconst (x := 0) E dX4_contract_28 (by decide) ?_
        obtain ⟨⟨r7, v7⟩, hc7, hF⟩ := jx_bind hF
        try dsimp only at hF
        refine jx_callVi (As := [.int 0]) (st := []) (h := 0) E dX4_contract_29 1 rfl (k_X4_finding hI 0 v1 r7 v7 hc7) (gb_V (List.mem_cons_of_mem _ tw_192) (List.mem_cons_of_mem _ tw_193) (List.mem_cons_of_mem _ tw_194) (List.mem_cons_of_mem _ tw_190) tw_191) rfl rfl rfl dd_X4_finding rfl (Nat.le_of_ble_eq_true rfl) s_X0 rfl ⟨by decide, by decide⟩ ⟨Nat.le_refl 0, Nat.le_refl 0⟩ (Nat.le_of_ble_eq_true rfl) ?_
        obtain ⟨rfl, rfl⟩ := jx_out hF
        exact jx_iret E dX4_contract_32 rfl
      · rw [if_neg hc6] at hF
        refine jx_iload_n E dX4_contract_18 3 rfl ?_
        refine jx_bipush (x := 37) E dX4_contract_19 (by decide) ?_
        obtain ⟨⟨r8, v8⟩, hc8, hF⟩ := jx_bind hF
        try dsimp only at hF
        refine jx_callSi (As := [.int x3, .int 37]) (st := []) E dX4_contract_21 2 rfl (k_X4_within hI x3 37 v1 r8 v8 hc8) (gb_S (List.mem_cons_of_mem _ tw_188) (List.mem_cons_of_mem _ tw_189) (List.mem_cons_of_mem _ tw_190) tw_187) rfl rfl rfl dd_X4_within rfl ⟨by decide, by decide⟩ ⟨Nat.le_refl 0, Nat.le_refl 0⟩ (Nat.le_of_ble_eq_true rfl) ?_
        refine jx_if_ne (tgt := 33) E dX4_contract_24 (by decide) (fun hc9 => ?_) (fun hc9 => ?_)
        · rw [if_neg hc9] at hF
          refine jx_aload_n E dX4_contract_33 0 rfl ?_
          refine jx_getr (C := RX4) (T := TX4) (M := 11) (k := 0) E dX4_contract_34 (Nat.le_of_ble_eq_true rfl) s_X0 rfl iX4 (by decide) rfl (List.mem_cons_of_mem _ tw_195) rfl ?_
          refine jx_getrN (C := RX3) (T := TX3) (M := 8) (k := 1) E dX4_contract_37 (Nat.le_of_ble_eq_true rfl) s_X1 rfl iX3 (by decide) rfl (ex_f3 (jx_ex E)) rfl ?_
          refine jx_iconst (x := 4) E dX4_contract_40 (by decide) ?_
          refine jx_aald (h' := 12) E dX4_contract_41 (Nat.le_of_ble_eq_true rfl) s_X3 (show ¬ ((4 : Int32) < 0 ∨ 6 ≤ Int32.toNatClampNeg 4) by decide) rfl ?_
          refine jx_iload_n E dX4_contract_42 1 rfl ?_
          refine jx_iload_n E dX4_contract_43 2 rfl ?_
          obtain ⟨hg10, hF⟩ := jx_guard hF
          refine jx_iast (h := 12) (j := (Int32.toNatClampNeg x1)) E dX4_contract_44 (Nat.le_of_ble_eq_true rfl) s_X12 hg10 rfl ?_
          refine jx_aload_n E dX4_contract_45 0 rfl ?_
          refine jx_getr (C := RX4) (T := TX4) (M := 11) (k := 0) E dX4_contract_46 (Nat.le_of_ble_eq_true rfl) s_X0 rfl iX4 (by decide) rfl (List.mem_cons_of_mem _ tw_195) rfl ?_
          refine jx_getrN (C := RX3) (T := TX3) (M := 8) (k := 1) E dX4_contract_49 (Nat.le_of_ble_eq_true rfl) s_X1 rfl iX3 (by decide) rfl (ex_f3 (jx_ex E)) rfl ?_
          refine jx_iconst (x := 5) E dX4_contract_52 (by decide) ?_
          refine jx_aald (h' := 13) E dX4_contract_53 (Nat.le_of_ble_eq_true rfl) s_X3 (show ¬ ((5 : Int32) < 0 ∨ 6 ≤ Int32.toNatClampNeg 5) by decide) rfl ?_
          refine jx_iload_n E dX4_contract_54 1 rfl ?_
          refine jx_iload_n E dX4_contract_55 2 rfl ?_
          refine jx_if_ge (tgt := 63) E dX4_contract_56 (by decide) (fun hc11 => ?_) (fun hc11 => ?_)
          · rw [if_pos hc11] at hF
            refine jx_iload_n E dX4_contract_63 3 rfl ?_
            obtain ⟨hg12, hF⟩ := jx_guard hF
            refine jx_iast (h := 13) (j := (Int32.toNatClampNeg x1)) E dX4_contract_64 (Nat.le_of_ble_eq_true rfl) s_X13 hg12 rfl ?_
            refine jx_aload_n E dX4_contract_65 0 rfl ?_
            refine jx_getr (C := RX4) (T := TX4) (M := 11) (k := 3) E dX4_contract_66 (Nat.le_of_ble_eq_true rfl) s_X0 rfl iX4 (by decide) rfl (List.mem_cons_of_mem _ tw_209) rfl ?_
            refine jx_aload_n E dX4_contract_69 0 rfl ?_
            refine jx_getr (C := RX4) (T := TX4) (M := 11) (k := 0) E dX4_contract_70 (Nat.le_of_ble_eq_true rfl) s_X0 rfl iX4 (by decide) rfl (List.mem_cons_of_mem _ tw_195) rfl ?_
            refine jx_iload_n E dX4_contract_73 1 rfl ?_
            obtain ⟨⟨r13, v13⟩, hc13, hF⟩ := jx_bind hF
            try dsimp only at hF
            refine jx_callNi (As := [.ref (ad 1), .int x1]) (st := []) (h := 49) E dX4_contract_74 2 rfl (k_X0_isBroken hI 1 jx_T1 x1 (jx_up (jx_up v8 12 (Int32.toNatClampNeg x1) x2) 13 (Int32.toNatClampNeg x1) x3) r13 v13 hc13) (gb_N tw_85) rfl rfl rfl (ex_m12 (jx_ex E)) (List.mem_cons_of_mem _ tw_49) (List.mem_cons_of_mem _ tw_87) (List.mem_cons_of_mem _ tw_88) dd_X0_isBroken.2 rfl (Nat.le_of_ble_eq_true rfl) s_X49 rfl ⟨by decide, by decide⟩ ⟨Nat.le_refl 0, Nat.le_refl 0⟩ (Nat.le_of_ble_eq_true rfl) ?_
            refine jx_if_eq (tgt := 84) E dX4_contract_77 (by decide) (fun hc14 => ?_) (fun hc14 => ?_)
            · rw [if_pos hc14] at hF
              refine jx_iconst (x := 0) E dX4_contract_84 (by decide) ?_
              obtain ⟨rfl, rfl⟩ := jx_out hF
              exact jx_iret E dX4_contract_85 rfl
            · rw [if_neg hc14] at hF
              refine jx_iconst (x := 1) E dX4_contract_80 (by decide) ?_
              refine jx_goto (tgt := 85) E dX4_contract_81 (by decide) ?_
              obtain ⟨rfl, rfl⟩ := jx_out hF
              exact jx_iret E dX4_contract_85 rfl
          · rw [if_neg hc11] at hF
            refine jx_iconst (x := 0) E dX4_contract_59 (by decide) ?_
            refine jx_goto (tgt := 64) E dX4_contract_60 (by decide) ?_
            obtain ⟨hg15, hF⟩ := jx_guard hF
            refine jx_iast (h := 13) (j := (Int32.toNatClampNeg x1)) E dX4_contract_64 (Nat.le_of_ble_eq_true rfl) s_X13 hg15 rfl ?_
            refine jx_aload_n E dX4_contract_65 0 rfl ?_
            refine jx_getr (C := RX4) (T := TX4) (M := 11) (k := 3) E dX4_contract_66 (Nat.le_of_ble_eq_true rfl) s_X0 rfl iX4 (by decide) rfl (List.mem_cons_of_mem _ tw_209) rfl ?_
            refine jx_aload_n E dX4_contract_69 0 rfl ?_
            refine jx_getr (C := RX4) (T := TX4) (M := 11) (k := 0) E dX4_contract_70 (Nat.le_of_ble_eq_true rfl) s_X0 rfl iX4 (by decide) rfl (List.mem_cons_of_mem _ tw_195) rfl ?_
            refine jx_iload_n E dX4_contract_73 1 rfl ?_
            obtain ⟨⟨r16, v16⟩, hc16, hF⟩ := jx_bind hF
            try dsimp only at hF
            refine jx_callNi (As := [.ref (ad 1), .int x1]) (st := []) (h := 49) E dX4_contract_74 2 rfl (k_X0_isBroken hI 1 jx_T1 x1 (jx_up (jx_up v8 12 (Int32.toNatClampNeg x1) x2) 13 (Int32.toNatClampNeg x1) 0) r16 v16 hc16) (gb_N tw_85) rfl rfl rfl (ex_m12 (jx_ex E)) (List.mem_cons_of_mem _ tw_49) (List.mem_cons_of_mem _ tw_87) (List.mem_cons_of_mem _ tw_88) dd_X0_isBroken.2 rfl (Nat.le_of_ble_eq_true rfl) s_X49 rfl ⟨by decide, by decide⟩ ⟨Nat.le_refl 0, Nat.le_refl 0⟩ (Nat.le_of_ble_eq_true rfl) ?_
            refine jx_if_eq (tgt := 84) E dX4_contract_77 (by decide) (fun hc17 => ?_) (fun hc17 => ?_)
            · rw [if_pos hc17] at hF
              refine jx_iconst (x := 0) E dX4_contract_84 (by decide) ?_
              obtain ⟨rfl, rfl⟩ := jx_out hF
              exact jx_iret E dX4_contract_85 rfl
            · rw [if_neg hc17] at hF
              refine jx_iconst (x := 1) E dX4_contract_80 (by decide) ?_
              refine jx_goto (tgt := 85) E dX4_contract_81 (by decide) ?_
              obtain ⟨rfl, rfl⟩ := jx_out hF
              exact jx_iret E dX4_contract_85 rfl
        · rw [if_pos hc9] at hF
          refine jx_aload_n E dX4_contract_27 0 rfl ?_
          refine jx_iconst (x := 0) E dX4_contract_28 (by decide) ?_
          obtain ⟨⟨r18, v18⟩, hc18, hF⟩ := jx_bind hF
          try dsimp only at hF
          refine jx_callVi (As := [.int 0]) (st := []) (h := 0) E dX4_contract_29 1 rfl (k_X4_finding hI 0 v8 r18 v18 hc18) (gb_V (List.mem_cons_of_mem _ tw_192) (List.mem_cons_of_mem _ tw_193) (List.mem_cons_of_mem _ tw_194) (List.mem_cons_of_mem _ tw_190) tw_191) rfl rfl rfl dd_X4_finding rfl (Nat.le_of_ble_eq_true rfl) s_X0 rfl ⟨by decide, by decide⟩ ⟨Nat.le_refl 0, Nat.le_refl 0⟩ (Nat.le_of_ble_eq_true rfl) ?_
          obtain ⟨rfl, rfl⟩ := jx_out hF
          exact jx_iret E dX4_contract_32 rfl
def f_X4_purse (x1 : Int32) (v : jx_V) : Option (Int32 × jx_V) := ((f_X4_within x1 4 v).bind (fun (r1, v1) => (if r1 = 0 then ((f_X4_finding 0 v1).bind (fun (r4, v4) => (some (r4, v4)))) else (if (x1 < 0 ∨ 4 ≤ Int32.toNatClampNeg x1) then none else (some ((v1 15 (Int32.toNatClampNeg x1)), v1))))))
def rm_X4_purse : Room := { frames := 1, cells := 0, slots := 0, locals := 21 }
set_option maxHeartbeats 4000000 in
set_option maxRecDepth 100000 in
theorem k_X4_purse {l : Launch} {D : va_G} {cI cJ : ClassId} {ad : Nat → Nat} {A : Nat → Prop} {adK adV : Nat → Nat} (hI : jx_inj 67 ad A) (x1 : Int32) (v : jx_V) (r : Int32) (v' : jx_V) (hF : f_X4_purse x1 v = some (r, v')) : jx_Ci l D vwCl 67 cI cJ ad shX A (ex_X adK adV A) yX4_purse (Cond.code yX4_purse cX4_purse 2 (some .int) :: bigT) rm_X4_purse [.ref (ad 0), .int x1] v r v' := by
  unfold f_X4_purse at hF
  refine jx_enteri bigT RX4 cX4_purse 2 (some .int) [(0, .ref (ad 0)), (1, .int x1)] hI (ex_X_ok adK adV A) (by decide +kernel) rfl (Nat.le_of_ble_eq_true rfl) rfl rfl ?_
  intro p e s m args below meth c E
  have iX3 : ∀ w ∈ u_ws RX3 TX3 8, w ∈ (Cond.code yX4_purse cX4_purse 2 (some .int) :: bigT) := fun w h => List.mem_cons_of_mem _ (uw_X3 w h)
  have iX4 : ∀ w ∈ u_ws RX4 TX4 11, w ∈ (Cond.code yX4_purse cX4_purse 2 (some .int) :: bigT) := fun w h => List.mem_cons_of_mem _ (uw_X4 w h)
  refine jx_iload_n E dX4_purse_0 1 rfl ?_
  refine jx_iconst (x := 4) E dX4_purse_1 (by decide) ?_
  obtain ⟨⟨r1, v1⟩, hc1, hF⟩ := jx_bind hF
  try dsimp only at hF
  refine jx_callSi (As := [.int x1, .int 4]) (st := []) E dX4_purse_2 2 rfl (k_X4_within hI x1 4 v r1 v1 hc1) (gb_S (List.mem_cons_of_mem _ tw_188) (List.mem_cons_of_mem _ tw_189) (List.mem_cons_of_mem _ tw_190) tw_187) rfl rfl rfl dd_X4_within rfl ⟨by decide, by decide⟩ ⟨Nat.le_refl 0, Nat.le_refl 0⟩ (Nat.le_of_ble_eq_true rfl) ?_
  refine jx_if_ne (tgt := 14) E dX4_purse_5 (by decide) (fun hc2 => ?_) (fun hc2 => ?_)
  · rw [if_neg hc2] at hF
    refine jx_aload_n E dX4_purse_14 0 rfl ?_
    refine jx_getr (C := RX4) (T := TX4) (M := 11) (k := 0) E dX4_purse_15 (Nat.le_of_ble_eq_true rfl) s_X0 rfl iX4 (by decide) rfl (List.mem_cons_of_mem _ tw_195) rfl ?_
    refine jx_getrN (C := RX3) (T := TX3) (M := 8) (k := 3) E dX4_purse_18 (Nat.le_of_ble_eq_true rfl) s_X1 rfl iX3 (by decide) rfl (ex_f6 (jx_ex E)) rfl ?_
    refine jx_iload_n E dX4_purse_21 1 rfl ?_
    obtain ⟨hg3, hF⟩ := jx_guard hF
    refine jx_iald (h := 15) (j := (Int32.toNatClampNeg x1)) E dX4_purse_22 (Nat.le_of_ble_eq_true rfl) s_X15 hg3 rfl ?_
    obtain ⟨rfl, rfl⟩ := jx_out hF
    exact jx_iret E dX4_purse_23 rfl
  · rw [if_pos hc2] at hF
    refine jx_aload_n E dX4_purse_8 0 rfl ?_
    refine jx_iconst (x := 0) E dX4_purse_9 (by decide) ?_
    obtain ⟨⟨r4, v4⟩, hc4, hF⟩ := jx_bind hF
    try dsimp only at hF
    refine jx_callVi (As := [.int 0]) (st := []) (h := 0) E dX4_purse_10 1 rfl (k_X4_finding hI 0 v1 r4 v4 hc4) (gb_V (List.mem_cons_of_mem _ tw_192) (List.mem_cons_of_mem _ tw_193) (List.mem_cons_of_mem _ tw_194) (List.mem_cons_of_mem _ tw_190) tw_191) rfl rfl rfl dd_X4_finding rfl (Nat.le_of_ble_eq_true rfl) s_X0 rfl ⟨by decide, by decide⟩ ⟨Nat.le_refl 0, Nat.le_refl 0⟩ (Nat.le_of_ble_eq_true rfl) ?_
    obtain ⟨rfl, rfl⟩ := jx_out hF
    exact jx_iret E dX4_purse_13 rfl
def f_X4_sees (x1 : Int32) (x2 : Int32) (v : jx_V) : Option (Int32 × jx_V) := ((f_X4_isWindow x1 v).bind (fun (r1, v1) => (if r1 = 0 then ((f_X4_finding 0 v1).bind (fun (r3, v3) => (some (r3, v3)))) else (if x2 < 1 then ((f_X4_finding 0 v1).bind (fun (r5, v5) => (some (r5, v5)))) else (if x2 ≤ 4 then ((f_X0_look 1 x1 v1).bind (fun v7 => ((f_X0_squareSet x2 v7).bind (fun (r8, v8) => (some (r8, v8)))))) else ((f_X4_finding 0 v1).bind (fun (r9, v9) => (some (r9, v9)))))))))
def rm_X4_sees : Room := { frames := 3, cells := 0, slots := 0, locals := 73 }
set_option maxHeartbeats 4000000 in
set_option maxRecDepth 100000 in
theorem k_X4_sees {l : Launch} {D : va_G} {cI cJ : ClassId} {ad : Nat → Nat} {A : Nat → Prop} {adK adV : Nat → Nat} (hI : jx_inj 67 ad A) (x1 : Int32) (x2 : Int32) (v : jx_V) (r : Int32) (v' : jx_V) (hF : f_X4_sees x1 x2 v = some (r, v')) : jx_Ci l D vwCl 67 cI cJ ad shX A (ex_X adK adV A) yX4_sees (Cond.code yX4_sees cX4_sees 3 (some .int) :: bigT) rm_X4_sees [.ref (ad 0), .int x1, .int x2] v r v' := by
  unfold f_X4_sees at hF
  refine jx_enteri bigT RX4 cX4_sees 3 (some .int) [(0, .ref (ad 0)), (1, .int x1), (2, .int x2)] hI (ex_X_ok adK adV A) (by decide +kernel) rfl (Nat.le_of_ble_eq_true rfl) rfl rfl ?_
  intro p e s m args below meth c E
  have iX4 : ∀ w ∈ u_ws RX4 TX4 11, w ∈ (Cond.code yX4_sees cX4_sees 3 (some .int) :: bigT) := fun w h => List.mem_cons_of_mem _ (uw_X4 w h)
  refine jx_aload_n E dX4_sees_0 0 rfl ?_
  refine jx_iload_n E dX4_sees_1 1 rfl ?_
  obtain ⟨⟨r1, v1⟩, hc1, hF⟩ := jx_bind hF
  try dsimp only at hF
  refine jx_callVi (As := [.int x1]) (st := []) (h := 0) E dX4_sees_2 1 rfl (k_X4_isWindow hI x1 v r1 v1 hc1) (gb_V (List.mem_cons_of_mem _ tw_203) (List.mem_cons_of_mem _ tw_204) (List.mem_cons_of_mem _ tw_205) (List.mem_cons_of_mem _ tw_190) tw_202) rfl rfl rfl dd_X4_isWindow rfl (Nat.le_of_ble_eq_true rfl) s_X0 rfl ⟨by decide, by decide⟩ ⟨Nat.le_refl 0, Nat.le_refl 0⟩ (Nat.le_of_ble_eq_true rfl) ?_
  refine jx_if_eq (tgt := 18) E dX4_sees_5 (by decide) (fun hc2 => ?_) (fun hc2 => ?_)
  · rw [if_pos hc2] at hF
    refine jx_aload_n E dX4_sees_18 0 rfl ?_
    refine jx_iconst (x := 0) E dX4_sees_19 (by decide) ?_
    obtain ⟨⟨r3, v3⟩, hc3, hF⟩ := jx_bind hF
    try dsimp only at hF
    refine jx_callVi (As := [.int 0]) (st := []) (h := 0) E dX4_sees_20 1 rfl (k_X4_finding hI 0 v1 r3 v3 hc3) (gb_V (List.mem_cons_of_mem _ tw_192) (List.mem_cons_of_mem _ tw_193) (List.mem_cons_of_mem _ tw_194) (List.mem_cons_of_mem _ tw_190) tw_191) rfl rfl rfl dd_X4_finding rfl (Nat.le_of_ble_eq_true rfl) s_X0 rfl ⟨by decide, by decide⟩ ⟨Nat.le_refl 0, Nat.le_refl 0⟩ (Nat.le_of_ble_eq_true rfl) ?_
    obtain ⟨rfl, rfl⟩ := jx_out hF
    exact jx_iret E dX4_sees_23 rfl
  · rw [if_neg hc2] at hF
    refine jx_iload_n E dX4_sees_8 2 rfl ?_
    refine jx_iconst (x := 1) E dX4_sees_9 (by decide) ?_
    refine jx_icmp_lt (tgt := 18) E dX4_sees_10 (by decide) (fun hc4 => ?_) (fun hc4 => ?_)
    · rw [if_pos hc4] at hF
      refine jx_aload_n E dX4_sees_18 0 rfl ?_
      refine jx_iconst (x := 0) E dX4_sees_19 (by decide) ?_
      obtain ⟨⟨r5, v5⟩, hc5, hF⟩ := jx_bind hF
      try dsimp only at hF
      refine jx_callVi (As := [.int 0]) (st := []) (h := 0) E dX4_sees_20 1 rfl (k_X4_finding hI 0 v1 r5 v5 hc5) (gb_V (List.mem_cons_of_mem _ tw_192) (List.mem_cons_of_mem _ tw_193) (List.mem_cons_of_mem _ tw_194) (List.mem_cons_of_mem _ tw_190) tw_191) rfl rfl rfl dd_X4_finding rfl (Nat.le_of_ble_eq_true rfl) s_X0 rfl ⟨by decide, by decide⟩ ⟨Nat.le_refl 0, Nat.le_refl 0⟩ (Nat.le_of_ble_eq_true rfl) ?_
      obtain ⟨rfl, rfl⟩ := jx_out hF
      exact jx_iret E dX4_sees_23 rfl
    · rw [if_neg hc4] at hF
      refine jx_iload_n E dX4_sees_13 2 rfl ?_
      refine jx_iconst (x := 4) E dX4_sees_14 (by decide) ?_
      refine jx_icmp_le (tgt := 24) E dX4_sees_15 (by decide) (fun hc6 => ?_) (fun hc6 => ?_)
      · rw [if_pos hc6] at hF
        refine jx_aload_n E dX4_sees_24 0 rfl ?_
        refine jx_getr (C := RX4) (T := TX4) (M := 11) (k := 3) E dX4_sees_25 (Nat.le_of_ble_eq_true rfl) s_X0 rfl iX4 (by decide) rfl (List.mem_cons_of_mem _ tw_209) rfl ?_
        refine jx_aload_n E dX4_sees_28 0 rfl ?_
        refine jx_getr (C := RX4) (T := TX4) (M := 11) (k := 0) E dX4_sees_29 (Nat.le_of_ble_eq_true rfl) s_X0 rfl iX4 (by decide) rfl (List.mem_cons_of_mem _ tw_195) rfl ?_
        refine jx_iload_n E dX4_sees_32 1 rfl ?_
        obtain ⟨v7, hc7, hF⟩ := jx_bind hF
        try dsimp only at hF
        refine jx_callNv (As := [.ref (ad 1), .int x1]) (st := []) (h := 49) E dX4_sees_33 2 rfl (k_X0_look hI 1 jx_T1 x1 v1 v7 hc7) (gb_N tw_65) rfl rfl rfl (ex_m15 (jx_ex E)) (List.mem_cons_of_mem _ tw_49) (List.mem_cons_of_mem _ tw_67) (List.mem_cons_of_mem _ tw_68) dd_X0_look.2 rfl (Nat.le_of_ble_eq_true rfl) s_X49 rfl ⟨by decide, by decide⟩ ⟨Nat.le_refl 0, Nat.le_refl 0⟩ (Nat.le_of_ble_eq_true rfl) ?_
        refine jx_aload_n E dX4_sees_36 0 rfl ?_
        refine jx_getr (C := RX4) (T := TX4) (M := 11) (k := 3) E dX4_sees_37 (Nat.le_of_ble_eq_true rfl) s_X0 rfl iX4 (by decide) rfl (List.mem_cons_of_mem _ tw_209) rfl ?_
        refine jx_iload_n E dX4_sees_40 2 rfl ?_
        obtain ⟨⟨r8, v8⟩, hc8, hF⟩ := jx_bind hF
        try dsimp only at hF
        refine jx_callNi (As := [.int x2]) (st := []) (h := 49) E dX4_sees_41 1 rfl (k_X0_squareSet hI x2 v7 r8 v8 hc8) (gb_N tw_210) rfl rfl rfl (ex_m16 (jx_ex E)) (List.mem_cons_of_mem _ tw_49) (List.mem_cons_of_mem _ tw_211) (List.mem_cons_of_mem _ tw_212) dd_X0_squareSet.2 rfl (Nat.le_of_ble_eq_true rfl) s_X49 rfl ⟨by decide, by decide⟩ ⟨Nat.le_refl 0, Nat.le_refl 0⟩ (Nat.le_of_ble_eq_true rfl) ?_
        obtain ⟨rfl, rfl⟩ := jx_out hF
        exact jx_iret E dX4_sees_44 rfl
      · rw [if_neg hc6] at hF
        refine jx_aload_n E dX4_sees_18 0 rfl ?_
        refine jx_iconst (x := 0) E dX4_sees_19 (by decide) ?_
        obtain ⟨⟨r9, v9⟩, hc9, hF⟩ := jx_bind hF
        try dsimp only at hF
        refine jx_callVi (As := [.int 0]) (st := []) (h := 0) E dX4_sees_20 1 rfl (k_X4_finding hI 0 v1 r9 v9 hc9) (gb_V (List.mem_cons_of_mem _ tw_192) (List.mem_cons_of_mem _ tw_193) (List.mem_cons_of_mem _ tw_194) (List.mem_cons_of_mem _ tw_190) tw_191) rfl rfl rfl dd_X4_finding rfl (Nat.le_of_ble_eq_true rfl) s_X0 rfl ⟨by decide, by decide⟩ ⟨Nat.le_refl 0, Nat.le_refl 0⟩ (Nat.le_of_ble_eq_true rfl) ?_
        obtain ⟨rfl, rfl⟩ := jx_out hF
        exact jx_iret E dX4_sees_23 rfl
def f_X4_view (x1 : Int32) (v : jx_V) : Option (Int32 × jx_V) := ((f_X4_isWindow x1 v).bind (fun (r1, v1) => (if r1 = 0 then ((f_X4_finding 0 v1).bind (fun (r4, v4) => (some (r4, v4)))) else ((f_X0_squaresInView 1 x1 v1).bind (fun (r3, v3) => (some (r3, v3)))))))
def rm_X4_view : Room := { frames := 4, cells := 0, slots := 0, locals := 97 }
set_option maxHeartbeats 4000000 in
set_option maxRecDepth 100000 in
theorem k_X4_view {l : Launch} {D : va_G} {cI cJ : ClassId} {ad : Nat → Nat} {A : Nat → Prop} {adK adV : Nat → Nat} (hI : jx_inj 67 ad A) (x1 : Int32) (v : jx_V) (r : Int32) (v' : jx_V) (hF : f_X4_view x1 v = some (r, v')) : jx_Ci l D vwCl 67 cI cJ ad shX A (ex_X adK adV A) yX4_view (Cond.code yX4_view cX4_view 2 (some .int) :: bigT) rm_X4_view [.ref (ad 0), .int x1] v r v' := by
  unfold f_X4_view at hF
  refine jx_enteri bigT RX4 cX4_view 2 (some .int) [(0, .ref (ad 0)), (1, .int x1)] hI (ex_X_ok adK adV A) (by decide +kernel) rfl (Nat.le_of_ble_eq_true rfl) rfl rfl ?_
  intro p e s m args below meth c E
  have iX4 : ∀ w ∈ u_ws RX4 TX4 11, w ∈ (Cond.code yX4_view cX4_view 2 (some .int) :: bigT) := fun w h => List.mem_cons_of_mem _ (uw_X4 w h)
  refine jx_aload_n E dX4_view_0 0 rfl ?_
  refine jx_iload_n E dX4_view_1 1 rfl ?_
  obtain ⟨⟨r1, v1⟩, hc1, hF⟩ := jx_bind hF
  try dsimp only at hF
  refine jx_callVi (As := [.int x1]) (st := []) (h := 0) E dX4_view_2 1 rfl (k_X4_isWindow hI x1 v r1 v1 hc1) (gb_V (List.mem_cons_of_mem _ tw_203) (List.mem_cons_of_mem _ tw_204) (List.mem_cons_of_mem _ tw_205) (List.mem_cons_of_mem _ tw_190) tw_202) rfl rfl rfl dd_X4_isWindow rfl (Nat.le_of_ble_eq_true rfl) s_X0 rfl ⟨by decide, by decide⟩ ⟨Nat.le_refl 0, Nat.le_refl 0⟩ (Nat.le_of_ble_eq_true rfl) ?_
  refine jx_if_ne (tgt := 14) E dX4_view_5 (by decide) (fun hc2 => ?_) (fun hc2 => ?_)
  · rw [if_neg hc2] at hF
    refine jx_aload_n E dX4_view_14 0 rfl ?_
    refine jx_getr (C := RX4) (T := TX4) (M := 11) (k := 3) E dX4_view_15 (Nat.le_of_ble_eq_true rfl) s_X0 rfl iX4 (by decide) rfl (List.mem_cons_of_mem _ tw_209) rfl ?_
    refine jx_aload_n E dX4_view_18 0 rfl ?_
    refine jx_getr (C := RX4) (T := TX4) (M := 11) (k := 0) E dX4_view_19 (Nat.le_of_ble_eq_true rfl) s_X0 rfl iX4 (by decide) rfl (List.mem_cons_of_mem _ tw_195) rfl ?_
    refine jx_iload_n E dX4_view_22 1 rfl ?_
    obtain ⟨⟨r3, v3⟩, hc3, hF⟩ := jx_bind hF
    try dsimp only at hF
    refine jx_callNi (As := [.ref (ad 1), .int x1]) (st := []) (h := 49) E dX4_view_23 2 rfl (k_X0_squaresInView hI 1 jx_T1 x1 v1 r3 v3 hc3) (gb_N tw_69) rfl rfl rfl (ex_m17 (jx_ex E)) (List.mem_cons_of_mem _ tw_49) (List.mem_cons_of_mem _ tw_71) (List.mem_cons_of_mem _ tw_72) dd_X0_squaresInView.2 rfl (Nat.le_of_ble_eq_true rfl) s_X49 rfl ⟨by decide, by decide⟩ ⟨Nat.le_refl 0, Nat.le_refl 0⟩ (Nat.le_of_ble_eq_true rfl) ?_
    obtain ⟨rfl, rfl⟩ := jx_out hF
    exact jx_iret E dX4_view_26 rfl
  · rw [if_pos hc2] at hF
    refine jx_aload_n E dX4_view_8 0 rfl ?_
    refine jx_iconst (x := 0) E dX4_view_9 (by decide) ?_
    obtain ⟨⟨r4, v4⟩, hc4, hF⟩ := jx_bind hF
    try dsimp only at hF
    refine jx_callVi (As := [.int 0]) (st := []) (h := 0) E dX4_view_10 1 rfl (k_X4_finding hI 0 v1 r4 v4 hc4) (gb_V (List.mem_cons_of_mem _ tw_192) (List.mem_cons_of_mem _ tw_193) (List.mem_cons_of_mem _ tw_194) (List.mem_cons_of_mem _ tw_190) tw_191) rfl rfl rfl dd_X4_finding rfl (Nat.le_of_ble_eq_true rfl) s_X0 rfl ⟨by decide, by decide⟩ ⟨Nat.le_refl 0, Nat.le_refl 0⟩ (Nat.le_of_ble_eq_true rfl) ?_
    obtain ⟨rfl, rfl⟩ := jx_out hF
    exact jx_iret E dX4_view_13 rfl
def f_X4_share (x1 : Int32) (x2 : Int32) (v : jx_V) : Option (Int32 × jx_V) := ((f_X4_isWindow x1 v).bind (fun (r1, v1) => (if r1 = 0 then ((f_X4_finding 0 v1).bind (fun (r3, v3) => (some (r3, v3)))) else ((f_X4_within x2 4 v1).bind (fun (r4, v4) => (if r4 = 0 then ((f_X4_finding 0 v4).bind (fun (r7, v7) => (some (r7, v7)))) else ((f_X0_squaresOfOwner 1 x1 x2 v4).bind (fun (r6, v6) => (some (r6, v6))))))))))
def rm_X4_share : Room := { frames := 4, cells := 0, slots := 0, locals := 98 }
set_option maxHeartbeats 4000000 in
set_option maxRecDepth 100000 in
theorem k_X4_share {l : Launch} {D : va_G} {cI cJ : ClassId} {ad : Nat → Nat} {A : Nat → Prop} {adK adV : Nat → Nat} (hI : jx_inj 67 ad A) (x1 : Int32) (x2 : Int32) (v : jx_V) (r : Int32) (v' : jx_V) (hF : f_X4_share x1 x2 v = some (r, v')) : jx_Ci l D vwCl 67 cI cJ ad shX A (ex_X adK adV A) yX4_share (Cond.code yX4_share cX4_share 3 (some .int) :: bigT) rm_X4_share [.ref (ad 0), .int x1, .int x2] v r v' := by
  unfold f_X4_share at hF
  refine jx_enteri bigT RX4 cX4_share 3 (some .int) [(0, .ref (ad 0)), (1, .int x1), (2, .int x2)] hI (ex_X_ok adK adV A) (by decide +kernel) rfl (Nat.le_of_ble_eq_true rfl) rfl rfl ?_
  intro p e s m args below meth c E
  have iX4 : ∀ w ∈ u_ws RX4 TX4 11, w ∈ (Cond.code yX4_share cX4_share 3 (some .int) :: bigT) := fun w h => List.mem_cons_of_mem _ (uw_X4 w h)
  refine jx_aload_n E dX4_share_0 0 rfl ?_
  refine jx_iload_n E dX4_share_1 1 rfl ?_
  obtain ⟨⟨r1, v1⟩, hc1, hF⟩ := jx_bind hF
  try dsimp only at hF
  refine jx_callVi (As := [.int x1]) (st := []) (h := 0) E dX4_share_2 1 rfl (k_X4_isWindow hI x1 v r1 v1 hc1) (gb_V (List.mem_cons_of_mem _ tw_203) (List.mem_cons_of_mem _ tw_204) (List.mem_cons_of_mem _ tw_205) (List.mem_cons_of_mem _ tw_190) tw_202) rfl rfl rfl dd_X4_isWindow rfl (Nat.le_of_ble_eq_true rfl) s_X0 rfl ⟨by decide, by decide⟩ ⟨Nat.le_refl 0, Nat.le_refl 0⟩ (Nat.le_of_ble_eq_true rfl) ?_
  refine jx_if_eq (tgt := 16) E dX4_share_5 (by decide) (fun hc2 => ?_) (fun hc2 => ?_)
  · rw [if_pos hc2] at hF
    refine jx_aload_n E dX4_share_16 0 rfl ?_
    refine jx_iconst (x := 0) E dX4_share_17 (by decide) ?_
    obtain ⟨⟨r3, v3⟩, hc3, hF⟩ := jx_bind hF
    try dsimp only at hF
    refine jx_callVi (As := [.int 0]) (st := []) (h := 0) E dX4_share_18 1 rfl (k_X4_finding hI 0 v1 r3 v3 hc3) (gb_V (List.mem_cons_of_mem _ tw_192) (List.mem_cons_of_mem _ tw_193) (List.mem_cons_of_mem _ tw_194) (List.mem_cons_of_mem _ tw_190) tw_191) rfl rfl rfl dd_X4_finding rfl (Nat.le_of_ble_eq_true rfl) s_X0 rfl ⟨by decide, by decide⟩ ⟨Nat.le_refl 0, Nat.le_refl 0⟩ (Nat.le_of_ble_eq_true rfl) ?_
    obtain ⟨rfl, rfl⟩ := jx_out hF
    exact jx_iret E dX4_share_21 rfl
  · rw [if_neg hc2] at hF
    refine jx_iload_n E dX4_share_8 2 rfl ?_
    refine jx_iconst (x := 4) E dX4_share_9 (by decide) ?_
    obtain ⟨⟨r4, v4⟩, hc4, hF⟩ := jx_bind hF
    try dsimp only at hF
    refine jx_callSi (As := [.int x2, .int 4]) (st := []) E dX4_share_10 2 rfl (k_X4_within hI x2 4 v1 r4 v4 hc4) (gb_S (List.mem_cons_of_mem _ tw_188) (List.mem_cons_of_mem _ tw_189) (List.mem_cons_of_mem _ tw_190) tw_187) rfl rfl rfl dd_X4_within rfl ⟨by decide, by decide⟩ ⟨Nat.le_refl 0, Nat.le_refl 0⟩ (Nat.le_of_ble_eq_true rfl) ?_
    refine jx_if_ne (tgt := 22) E dX4_share_13 (by decide) (fun hc5 => ?_) (fun hc5 => ?_)
    · rw [if_neg hc5] at hF
      refine jx_aload_n E dX4_share_22 0 rfl ?_
      refine jx_getr (C := RX4) (T := TX4) (M := 11) (k := 3) E dX4_share_23 (Nat.le_of_ble_eq_true rfl) s_X0 rfl iX4 (by decide) rfl (List.mem_cons_of_mem _ tw_209) rfl ?_
      refine jx_aload_n E dX4_share_26 0 rfl ?_
      refine jx_getr (C := RX4) (T := TX4) (M := 11) (k := 0) E dX4_share_27 (Nat.le_of_ble_eq_true rfl) s_X0 rfl iX4 (by decide) rfl (List.mem_cons_of_mem _ tw_195) rfl ?_
      refine jx_iload_n E dX4_share_30 1 rfl ?_
      refine jx_iload_n E dX4_share_31 2 rfl ?_
      obtain ⟨⟨r6, v6⟩, hc6, hF⟩ := jx_bind hF
      try dsimp only at hF
      refine jx_callNi (As := [.ref (ad 1), .int x1, .int x2]) (st := []) (h := 49) E dX4_share_32 3 rfl (k_X0_squaresOfOwner hI 1 jx_T1 x1 x2 v4 r6 v6 hc6) (gb_N tw_81) rfl rfl rfl (ex_m18 (jx_ex E)) (List.mem_cons_of_mem _ tw_49) (List.mem_cons_of_mem _ tw_83) (List.mem_cons_of_mem _ tw_84) dd_X0_squaresOfOwner.2 rfl (Nat.le_of_ble_eq_true rfl) s_X49 rfl ⟨by decide, by decide⟩ ⟨Nat.le_refl 0, Nat.le_refl 0⟩ (Nat.le_of_ble_eq_true rfl) ?_
      obtain ⟨rfl, rfl⟩ := jx_out hF
      exact jx_iret E dX4_share_35 rfl
    · rw [if_pos hc5] at hF
      refine jx_aload_n E dX4_share_16 0 rfl ?_
      refine jx_iconst (x := 0) E dX4_share_17 (by decide) ?_
      obtain ⟨⟨r7, v7⟩, hc7, hF⟩ := jx_bind hF
      try dsimp only at hF
      refine jx_callVi (As := [.int 0]) (st := []) (h := 0) E dX4_share_18 1 rfl (k_X4_finding hI 0 v4 r7 v7 hc7) (gb_V (List.mem_cons_of_mem _ tw_192) (List.mem_cons_of_mem _ tw_193) (List.mem_cons_of_mem _ tw_194) (List.mem_cons_of_mem _ tw_190) tw_191) rfl rfl rfl dd_X4_finding rfl (Nat.le_of_ble_eq_true rfl) s_X0 rfl ⟨by decide, by decide⟩ ⟨Nat.le_refl 0, Nat.le_refl 0⟩ (Nat.le_of_ble_eq_true rfl) ?_
      obtain ⟨rfl, rfl⟩ := jx_out hF
      exact jx_iret E dX4_share_21 rfl
def f_X4_lots (x1 : Int32) (v : jx_V) : Option (Int32 × jx_V) := ((f_X4_isWindow x1 v).bind (fun (r1, v1) => (if r1 = 0 then ((f_X4_finding 0 v1).bind (fun (r4, v4) => (some (r4, v4)))) else ((f_X0_lotSet 1 x1 v1).bind (fun (r3, v3) => (some (r3, v3)))))))
def rm_X4_lots : Room := { frames := 4, cells := 0, slots := 0, locals := 97 }
set_option maxHeartbeats 4000000 in
set_option maxRecDepth 100000 in
theorem k_X4_lots {l : Launch} {D : va_G} {cI cJ : ClassId} {ad : Nat → Nat} {A : Nat → Prop} {adK adV : Nat → Nat} (hI : jx_inj 67 ad A) (x1 : Int32) (v : jx_V) (r : Int32) (v' : jx_V) (hF : f_X4_lots x1 v = some (r, v')) : jx_Ci l D vwCl 67 cI cJ ad shX A (ex_X adK adV A) yX4_lots (Cond.code yX4_lots cX4_lots 2 (some .int) :: bigT) rm_X4_lots [.ref (ad 0), .int x1] v r v' := by
  unfold f_X4_lots at hF
  refine jx_enteri bigT RX4 cX4_lots 2 (some .int) [(0, .ref (ad 0)), (1, .int x1)] hI (ex_X_ok adK adV A) (by decide +kernel) rfl (Nat.le_of_ble_eq_true rfl) rfl rfl ?_
  intro p e s m args below meth c E
  have iX4 : ∀ w ∈ u_ws RX4 TX4 11, w ∈ (Cond.code yX4_lots cX4_lots 2 (some .int) :: bigT) := fun w h => List.mem_cons_of_mem _ (uw_X4 w h)
  refine jx_aload_n E dX4_lots_0 0 rfl ?_
  refine jx_iload_n E dX4_lots_1 1 rfl ?_
  obtain ⟨⟨r1, v1⟩, hc1, hF⟩ := jx_bind hF
  try dsimp only at hF
  refine jx_callVi (As := [.int x1]) (st := []) (h := 0) E dX4_lots_2 1 rfl (k_X4_isWindow hI x1 v r1 v1 hc1) (gb_V (List.mem_cons_of_mem _ tw_203) (List.mem_cons_of_mem _ tw_204) (List.mem_cons_of_mem _ tw_205) (List.mem_cons_of_mem _ tw_190) tw_202) rfl rfl rfl dd_X4_isWindow rfl (Nat.le_of_ble_eq_true rfl) s_X0 rfl ⟨by decide, by decide⟩ ⟨Nat.le_refl 0, Nat.le_refl 0⟩ (Nat.le_of_ble_eq_true rfl) ?_
  refine jx_if_ne (tgt := 14) E dX4_lots_5 (by decide) (fun hc2 => ?_) (fun hc2 => ?_)
  · rw [if_neg hc2] at hF
    refine jx_aload_n E dX4_lots_14 0 rfl ?_
    refine jx_getr (C := RX4) (T := TX4) (M := 11) (k := 3) E dX4_lots_15 (Nat.le_of_ble_eq_true rfl) s_X0 rfl iX4 (by decide) rfl (List.mem_cons_of_mem _ tw_209) rfl ?_
    refine jx_aload_n E dX4_lots_18 0 rfl ?_
    refine jx_getr (C := RX4) (T := TX4) (M := 11) (k := 0) E dX4_lots_19 (Nat.le_of_ble_eq_true rfl) s_X0 rfl iX4 (by decide) rfl (List.mem_cons_of_mem _ tw_195) rfl ?_
    refine jx_iload_n E dX4_lots_22 1 rfl ?_
    obtain ⟨⟨r3, v3⟩, hc3, hF⟩ := jx_bind hF
    try dsimp only at hF
    refine jx_callNi (As := [.ref (ad 1), .int x1]) (st := []) (h := 49) E dX4_lots_23 2 rfl (k_X0_lotSet hI 1 jx_T1 x1 v1 r3 v3 hc3) (gb_N tw_213) rfl rfl rfl (ex_m19 (jx_ex E)) (List.mem_cons_of_mem _ tw_49) (List.mem_cons_of_mem _ tw_214) (List.mem_cons_of_mem _ tw_215) dd_X0_lotSet.2 rfl (Nat.le_of_ble_eq_true rfl) s_X49 rfl ⟨by decide, by decide⟩ ⟨Nat.le_refl 0, Nat.le_refl 0⟩ (Nat.le_of_ble_eq_true rfl) ?_
    obtain ⟨rfl, rfl⟩ := jx_out hF
    exact jx_iret E dX4_lots_26 rfl
  · rw [if_pos hc2] at hF
    refine jx_aload_n E dX4_lots_8 0 rfl ?_
    refine jx_iconst (x := 0) E dX4_lots_9 (by decide) ?_
    obtain ⟨⟨r4, v4⟩, hc4, hF⟩ := jx_bind hF
    try dsimp only at hF
    refine jx_callVi (As := [.int 0]) (st := []) (h := 0) E dX4_lots_10 1 rfl (k_X4_finding hI 0 v1 r4 v4 hc4) (gb_V (List.mem_cons_of_mem _ tw_192) (List.mem_cons_of_mem _ tw_193) (List.mem_cons_of_mem _ tw_194) (List.mem_cons_of_mem _ tw_190) tw_191) rfl rfl rfl dd_X4_finding rfl (Nat.le_of_ble_eq_true rfl) s_X0 rfl ⟨by decide, by decide⟩ ⟨Nat.le_refl 0, Nat.le_refl 0⟩ (Nat.le_of_ble_eq_true rfl) ?_
    obtain ⟨rfl, rfl⟩ := jx_out hF
    exact jx_iret E dX4_lots_13 rfl
def f_X4_watched_L  : Nat → Int32 → Int32 → Int32 → jx_V → Option (Int32 × jx_V)
  | 0, _, _, _, _ => none
  | n + 1, x1, x2, x3, v => (if (v 1 5) ≤ x3 then (some (x2, v)) else ((f_X0_lotSet 1 x3 v).bind (fun (r5, v5) => (if ((r5 >>> (x1 &&& 31)) &&& 1) = 1 then (f_X4_watched_L n x1 (x2 ||| (1 <<< (x3 &&& 31))) (x3 + 1) v5) else (f_X4_watched_L n x1 x2 (x3 + 1) v5)))))
def f_X4_watched (x1 : Int32) (v : jx_V) : Option (Int32 × jx_V) := ((f_X4_within x1 25 v).bind (fun (r1, v1) => (if r1 = 0 then ((f_X4_finding 0 v1).bind (fun (r3, v3) => (some (r3, v3)))) else (f_X4_watched_L 100000 x1 0 0 v1))))
def rm_X4_watched : Room := { frames := 4, cells := 0, slots := 0, locals := 97 }
set_option maxHeartbeats 4000000 in
set_option maxRecDepth 100000 in
theorem k_X4_watched {l : Launch} {D : va_G} {cI cJ : ClassId} {ad : Nat → Nat} {A : Nat → Prop} {adK adV : Nat → Nat} (hI : jx_inj 67 ad A) (x1 : Int32) (v : jx_V) (r : Int32) (v' : jx_V) (hF : f_X4_watched x1 v = some (r, v')) : jx_Ci l D vwCl 67 cI cJ ad shX A (ex_X adK adV A) yX4_watched (Cond.code yX4_watched cX4_watched 4 (some .int) :: bigT) rm_X4_watched [.ref (ad 0), .int x1] v r v' := by
  unfold f_X4_watched at hF
  refine jx_enteri bigT RX4 cX4_watched 4 (some .int) [(0, .ref (ad 0)), (1, .int x1)] hI (ex_X_ok adK adV A) (by decide +kernel) rfl (Nat.le_of_ble_eq_true rfl) rfl rfl ?_
  intro p e s m args below meth c E
  have iX3 : ∀ w ∈ u_ws RX3 TX3 8, w ∈ (Cond.code yX4_watched cX4_watched 4 (some .int) :: bigT) := fun w h => List.mem_cons_of_mem _ (uw_X3 w h)
  have iX4 : ∀ w ∈ u_ws RX4 TX4 11, w ∈ (Cond.code yX4_watched cX4_watched 4 (some .int) :: bigT) := fun w h => List.mem_cons_of_mem _ (uw_X4 w h)
  have key : ∀ n : Nat, (∀ (x1 : Int32) (x2 : Int32) (x3 : Int32) (v : jx_V), f_X4_watched_L  n  x1 x2 x3 v = some (r, v') → jx_J p l e rm_X4_watched s m args below meth c D vwCl 67 cI cJ ad shX A 0 0 4 (MQ below (va_Qi (fun (r1 : Int32) (_ : Unit) => r1 = r) (fun _ t => va_P D vwCl (jx_ws 67 cI cJ ad shX v') t.heap) A) args s 0 0 A) v 19 [(0, .ref (ad 0)), (1, .int x1), (2, .int x2), (3, .int x3)] []) := by
    intro n
    induction n with
    | zero =>
      exact (fun _ _ _ _ h => by cases h)
    | succ n ih =>
      intro x1 x2 x3 v hF
      rw [f_X4_watched_L] at hF
      refine jx_iload_n E dX4_watched_19 3 rfl ?_
      refine jx_aload_n E dX4_watched_20 0 rfl ?_
      refine jx_getr (C := RX4) (T := TX4) (M := 11) (k := 0) E dX4_watched_21 (Nat.le_of_ble_eq_true rfl) s_X0 rfl iX4 (by decide) rfl (List.mem_cons_of_mem _ tw_195) rfl ?_
      refine jx_getiN (C := RX3) (T := TX3) (M := 8) (k := 5) E dX4_watched_24 (Nat.le_of_ble_eq_true rfl) s_X1 rfl iX3 (by decide) rfl (ex_f10 (jx_ex E)) rfl ?_
      refine jx_icmp_ge (tgt := 62) E dX4_watched_27 (by decide) (fun hc4 => ?_) (fun hc4 => ?_)
      · rw [if_pos hc4] at hF
        refine jx_iload_n E dX4_watched_62 2 rfl ?_
        obtain ⟨rfl, rfl⟩ := jx_out hF
        exact jx_iret E dX4_watched_63 rfl
      · rw [if_neg hc4] at hF
        refine jx_aload_n E dX4_watched_30 0 rfl ?_
        refine jx_getr (C := RX4) (T := TX4) (M := 11) (k := 3) E dX4_watched_31 (Nat.le_of_ble_eq_true rfl) s_X0 rfl iX4 (by decide) rfl (List.mem_cons_of_mem _ tw_209) rfl ?_
        refine jx_aload_n E dX4_watched_34 0 rfl ?_
        refine jx_getr (C := RX4) (T := TX4) (M := 11) (k := 0) E dX4_watched_35 (Nat.le_of_ble_eq_true rfl) s_X0 rfl iX4 (by decide) rfl (List.mem_cons_of_mem _ tw_195) rfl ?_
        refine jx_iload_n E dX4_watched_38 3 rfl ?_
        obtain ⟨⟨r5, v5⟩, hc5, hF⟩ := jx_bind hF
        try dsimp only at hF
        refine jx_callNi (As := [.ref (ad 1), .int x3]) (st := []) (h := 49) E dX4_watched_39 2 rfl (k_X0_lotSet hI 1 jx_T1 x3 v r5 v5 hc5) (gb_N tw_213) rfl rfl rfl (ex_m19 (jx_ex E)) (List.mem_cons_of_mem _ tw_49) (List.mem_cons_of_mem _ tw_214) (List.mem_cons_of_mem _ tw_215) dd_X0_lotSet.2 rfl (Nat.le_of_ble_eq_true rfl) s_X49 rfl ⟨by decide, by decide⟩ ⟨Nat.le_refl 0, Nat.le_refl 0⟩ (Nat.le_of_ble_eq_true rfl) ?_
        refine jx_iload_n E dX4_watched_42 1 rfl ?_
        refine jx_ishr E dX4_watched_43 ?_
        refine jx_iconst (x := 1) E dX4_watched_44 (by decide) ?_
        refine jx_iand E dX4_watched_45 ?_
        refine jx_iconst (x := 1) E dX4_watched_46 (by decide) ?_
        refine jx_icmp_ne (tgt := 56) E dX4_watched_47 (by decide) (fun hc6 => ?_) (fun hc6 => ?_)
        · rw [if_neg hc6] at hF
          refine jx_iinc (y := (x3 + 1)) (lv' := [(3, .int (x3 + 1)), (0, .ref (ad 0)), (1, .int x1), (2, .int x2)]) E dX4_watched_56 3 rfl rfl (by decide) rfl ?_
          refine jx_goto (tgt := 19) E dX4_watched_59 (by decide) ?_
          refine jx_sub [1, 2, 3, 0] rfl ?_
          exact ih x1 x2 (x3 + 1) v5 hF
        · rw [if_pos hc6] at hF
          refine jx_iload_n E dX4_watched_50 2 rfl ?_
          refine jx_iconst (x := 1) E dX4_watched_51 (by decide) ?_
          refine jx_iload_n E dX4_watched_52 3 rfl ?_
          refine jx_ishl E dX4_watched_53 ?_
          refine jx_ior E dX4_watched_54 ?_
          refine jx_istore_n (lv' := [(2, .int (x2 ||| (1 <<< (x3 &&& 31)))), (0, .ref (ad 0)), (1, .int x1), (3, .int x3)]) E dX4_watched_55 (by decide) rfl ?_
          refine jx_iinc (y := (x3 + 1)) (lv' := [(3, .int (x3 + 1)), (2, .int (x2 ||| (1 <<< (x3 &&& 31)))), (0, .ref (ad 0)), (1, .int x1)]) E dX4_watched_56 3 rfl rfl (by decide) rfl ?_
          refine jx_goto (tgt := 19) E dX4_watched_59 (by decide) ?_
          refine jx_sub [2, 3, 1, 0] rfl ?_
          exact ih x1 (x2 ||| (1 <<< (x3 &&& 31))) (x3 + 1) v5 hF
  refine jx_iload_n E dX4_watched_0 1 rfl ?_
  refine jx_bipush (x := 25) E dX4_watched_1 (by decide) ?_
  obtain ⟨⟨r1, v1⟩, hc1, hF⟩ := jx_bind hF
  try dsimp only at hF
  refine jx_callSi (As := [.int x1, .int 25]) (st := []) E dX4_watched_3 2 rfl (k_X4_within hI x1 25 v r1 v1 hc1) (gb_S (List.mem_cons_of_mem _ tw_188) (List.mem_cons_of_mem _ tw_189) (List.mem_cons_of_mem _ tw_190) tw_187) rfl rfl rfl dd_X4_within rfl ⟨by decide, by decide⟩ ⟨Nat.le_refl 0, Nat.le_refl 0⟩ (Nat.le_of_ble_eq_true rfl) ?_
  refine jx_if_ne (tgt := 15) E dX4_watched_6 (by decide) (fun hc2 => ?_) (fun hc2 => ?_)
  · rw [if_neg hc2] at hF
    refine jx_iconst (x := 0) E dX4_watched_15 (by decide) ?_
    refine jx_istore_n (lv' := [(2, .int 0), (0, .ref (ad 0)), (1, .int x1)]) E dX4_watched_16 (by decide) rfl ?_
    refine jx_iconst (x := 0) E dX4_watched_17 (by decide) ?_
    refine jx_istore_n (lv' := [(3, .int 0), (2, .int 0), (0, .ref (ad 0)), (1, .int x1)]) E dX4_watched_18 (by decide) rfl ?_
    refine jx_sub [2, 3, 1, 0] rfl ?_
    exact (key 100000) x1 0 0 v1 hF
  · rw [if_pos hc2] at hF
    refine jx_aload_n E dX4_watched_9 0 rfl ?_
    refine jx_iconst (x := 0) E dX4_watched_10 (by decide) ?_
    obtain ⟨⟨r3, v3⟩, hc3, hF⟩ := jx_bind hF
    try dsimp only at hF
    refine jx_callVi (As := [.int 0]) (st := []) (h := 0) E dX4_watched_11 1 rfl (k_X4_finding hI 0 v1 r3 v3 hc3) (gb_V (List.mem_cons_of_mem _ tw_192) (List.mem_cons_of_mem _ tw_193) (List.mem_cons_of_mem _ tw_194) (List.mem_cons_of_mem _ tw_190) tw_191) rfl rfl rfl dd_X4_finding rfl (Nat.le_of_ble_eq_true rfl) s_X0 rfl ⟨by decide, by decide⟩ ⟨Nat.le_refl 0, Nat.le_refl 0⟩ (Nat.le_of_ble_eq_true rfl) ?_
    obtain ⟨rfl, rfl⟩ := jx_out hF
    exact jx_iret E dX4_watched_14 rfl
