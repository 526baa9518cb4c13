def kdf (m : Nat → Bool) : Int32 := if m 0 = true then 0 else if m 1 = true then 1 else if m 2 = true then 2 else if m 3 = true then 3 else if m 4 = true then 4 else if m 5 = true then 5 else if m 6 = true then 6 else -1
theorem ax_rt {nt t7 t8 t9 t10 : jx_V → Option jx_V} {tl n4 n10v iw : jx_V → Option (Int32 × jx_V)} {pt : Int32 → Int32 → Int32 → Int32 → Int32 → jx_V → Option jx_V} {v v1 v2 v3 v4 v5 v6 v7 : jx_V} {x2 r3 r5 r7 r8 : Int32} (h1 : nt v = some v1) (h2 : t7 v1 = some v2) (h3 : tl v2 = some (r3, v3)) (h4 : t8 v3 = some v4) (h5 : n4 v4 = some (r5, v5)) (h6 : t9 v5 = some v6) (h7 : n10v v6 = some (r7, v7)) (h8 : iw v7 = some (r8, v7)) :
    ((nt v).bind (fun v1 => ((t7 v1).bind (fun v2 => ((tl v2).bind (fun (r3, v3) => ((t8 v3).bind (fun v4 => ((n4 v4).bind (fun (r5, v5) => ((t9 v5).bind (fun v6 => ((n10v v6).bind (fun (r7, v7) => ((iw v7).bind (fun (r8, v8) => (if r8 = 0 then (if 0 ≤ (v8 53 6) then (some v8) else ((pt r3 x2 r5 r7 0 v8).bind (fun v11 => (some v11)))) else ((t10 v8).bind (fun v12 => ((n4 v12).bind (fun (r13, v13) => (if 0 ≤ (v13 53 6) then (some v13) else ((pt r3 x2 r5 r7 r13 v13).bind (fun v15 => (some v15))))))))))))))))))))))))) = if r8 = 0 then (if 0 ≤ v7 53 6 then some v7 else pt r3 x2 r5 r7 0 v7) else (t10 v7).bind (fun v12 => (n4 v12).bind (fun (r13, v13) => if 0 ≤ v13 53 6 then some v13 else pt r3 x2 r5 r7 r13 v13)) := by
  simp only [h1, h2, h3, h4, h5, h6, h7, h8, Option.bind_some, bso]
theorem ax_ti {n1 n0 lo : jx_V → Option jx_V} {wd : jx_V → Option (Int64 × jx_V)} {nbo nbh nbp : jx_V → Option (Int32 × jx_V)} {bd : Int32 → Int32 → Int32 → Int32 → Int32 → jx_V → Option jx_V} {v w1 w2 w3 w5 w7 : jx_V} {x1 r5 r7 : Int32} {hh h7 x52 xp : Int64} (e1 : n1 v = some w1) (e2 : wd w1 = some (hh, w1)) (e3 : (if lg_cmp hh x52 = 0 then n1 w1 else n0 w1) = some w2) (e4 : (if w2 0 16 = 0 then lo w2 else some w2) = some w3) (e5 : nbo w3 = some (r5, w5)) (e6 : nbh w5 = some (r7, w7)) (e7 : wd w7 = some (h7, w7)) :
    ((n1 v).bind (fun v1 => ((wd v1).bind (fun (r2, v2) => (if (lg_cmp r2 x52) = 0 then ((n1 v2).bind (fun v25 => (if (v25 0 16) = 0 then ((lo v25).bind (fun v36 => ((nbo v36).bind (fun (r37, v37) => ((nbh v37).bind (fun (r38, v38) => ((wd v38).bind (fun (r39, v39) => (if (lg_cmp r39 xp) = 0 then ((nbp v39).bind (fun (r43, v43) => (if (v43 0 16) = 0 then ((bd (v36 0 15) x1 r37 r38 r43 v43).bind (fun v45 => (some v45))) else (some v43)))) else (if (v39 0 16) = 0 then ((bd (v36 0 15) x1 r37 r38 0 v39).bind (fun v42 => (some v42))) else (some v39))))))))))) else ((nbo v25).bind (fun (r27, v27) => ((nbh v27).bind (fun (r28, v28) => ((wd v28).bind (fun (r29, v29) => (if (lg_cmp r29 xp) = 0 then ((nbp v29).bind (fun (r33, v33) => (if (v33 0 16) = 0 then ((bd (v25 0 15) x1 r27 r28 r33 v33).bind (fun v35 => (some v35))) else (some v33)))) else (if (v29 0 16) = 0 then ((bd (v25 0 15) x1 r27 r28 0 v29).bind (fun v32 => (some v32))) else (some v29)))))))))))) else ((n0 v2).bind (fun v4 => (if (v4 0 16) = 0 then ((lo v4).bind (fun v15 => ((nbo v15).bind (fun (r16, v16) => ((nbh v16).bind (fun (r17, v17) => ((wd v17).bind (fun (r18, v18) => (if (lg_cmp r18 xp) = 0 then ((nbp v18).bind (fun (r22, v22) => (if (v22 0 16) = 0 then ((bd (v15 0 15) x1 r16 r17 r22 v22).bind (fun v24 => (some v24))) else (some v22)))) else (if (v18 0 16) = 0 then ((bd (v15 0 15) x1 r16 r17 0 v18).bind (fun v21 => (some v21))) else (some v18))))))))))) else ((nbo v4).bind (fun (r6, v6) => ((nbh v6).bind (fun (r7, v7) => ((wd v7).bind (fun (r8, v8) => (if (lg_cmp r8 xp) = 0 then ((nbp v8).bind (fun (r12, v12) => (if (v12 0 16) = 0 then ((bd (v4 0 15) x1 r6 r7 r12 v12).bind (fun v14 => (some v14))) else (some v12)))) else (if (v8 0 16) = 0 then ((bd (v4 0 15) x1 r6 r7 0 v8).bind (fun v11 => (some v11))) else (some v8))))))))))))))))) = if lg_cmp h7 xp = 0 then (nbp w7).bind (fun (r43, v43) => if v43 0 16 = 0 then bd (w3 0 15) x1 r5 r7 r43 v43 else some v43) else if w7 0 16 = 0 then bd (w3 0 15) x1 r5 r7 0 w7 else some w7 := by
  simp only [e1, e2, Option.bind_some, bso]
  by_cases c : lg_cmp hh x52 = 0
  · rw [if_pos c] at e3
    simp only [if_pos c, e3, Option.bind_some]
    by_cases d : w2 0 16 = 0
    · rw [if_pos d] at e4
      simp only [if_pos d, e4, e5, e6, e7, Option.bind_some]
    · rw [if_neg d] at e4
      injection e4 with e4
      subst e4
      simp only [if_neg d, e5, e6, e7, Option.bind_some]
  · rw [if_neg c] at e3
    simp only [if_neg c, e3, Option.bind_some]
    by_cases d : w2 0 16 = 0
    · rw [if_pos d] at e4
      simp only [if_pos d, e4, e5, e6, e7, Option.bind_some]
    · rw [if_neg d] at e4
      injection e4 with e4
      subst e4
      simp only [if_neg d, e5, e6, e7, Option.bind_some]
theorem ax_rw {nt t7 t12 t13 t14 : jx_V → Option jx_V} {n25 n10v n4 : jx_V → Option (Int32 × jx_V)} {aw : Int32 → Int32 → Int32 → Int32 → jx_V → Option jx_V} {v v1 v2 v3 v4 v5 v6 v7 v8 v9 : jx_V} {r3 r5 r7 r9 : Int32} (h1 : nt v = some v1) (h2 : t7 v1 = some v2) (h3 : n25 v2 = some (r3, v3)) (h4 : t12 v3 = some v4) (h5 : n10v v4 = some (r5, v5)) (h6 : t13 v5 = some v6) (h7 : n4 v6 = some (r7, v7)) (h8 : t14 v7 = some v8) (h9 : n4 v8 = some (r9, v9)) :
    ((nt v).bind (fun v1 => ((t7 v1).bind (fun v2 => ((n25 v2).bind (fun (r3, v3) => ((t12 v3).bind (fun v4 => ((n10v v4).bind (fun (r5, v5) => ((t13 v5).bind (fun v6 => ((n4 v6).bind (fun (r7, v7) => ((t14 v7).bind (fun v8 => ((n4 v8).bind (fun (r9, v9) => (if 0 ≤ (v9 53 6) then (some v9) else ((aw r3 r5 r7 r9 v9).bind (fun v11 => (some v11)))))))))))))))))))))) = if 0 ≤ v9 53 6 then some v9 else aw r3 r5 r7 r9 v9 := by
  simp only [h1, h2, h3, h4, h5, h6, h7, h8, h9, Option.bind_some, bso]
theorem ax_wi {n1 n0 : jx_V → Option jx_V} {na nl nw nf : jx_V → Option (Int32 × jx_V)} {ne : Int32 → Int32 → Int32 → Int32 → jx_V → Option (Int32 × jx_V)} {v w1 w2 w3 w4 w5 : jx_V} {r2 r3 r4 r5 : Int32} (e1 : (if 10 ≤ v 1 1 then n0 v else n1 v) = some w1) (e2 : na w1 = some (r2, w2)) (e3 : nl w2 = some (r3, w3)) (e4 : nw w3 = some (r4, w4)) (e5 : nf w4 = some (r5, w5)) :
    (if 10 ≤ (v 1 1) then ((n0 v).bind (fun v2 => ((na v2).bind (fun (r3, v3) => ((nl v3).bind (fun (r4, v4) => ((nw v4).bind (fun (r5, v5) => ((nf v5).bind (fun (r6, v6) => (if (v6 0 16) = 0 then ((ne r3 r4 r5 r6 v6).bind (fun (r8, v8) => (some v8))) else (some v6)))))))))))) else ((n1 v).bind (fun v9 => ((na v9).bind (fun (r10, v10) => ((nl v10).bind (fun (r11, v11) => ((nw v11).bind (fun (r12, v12) => ((nf v12).bind (fun (r13, v13) => (if (v13 0 16) = 0 then ((ne r10 r11 r12 r13 v13).bind (fun (r15, v15) => (some v15))) else (some v13))))))))))))) = if w5 0 16 = 0 then (ne r2 r3 r4 r5 w5).bind (fun (r8, v8) => some v8) else some w5 := by
  by_cases c : 10 ≤ v 1 1
  · rw [if_pos c] at e1
    simp only [if_pos c, e1, e2, e3, e4, e5, Option.bind_some]
  · rw [if_neg c] at e1
    simp only [if_neg c, e1, e2, e3, e4, e5, Option.bind_some]
theorem ax_rp {nt : jx_V → Option jx_V} {n4 n100 : jx_V → Option (Int32 × jx_V)} {v v1 v2 v3 : jx_V} {r2 r3 : Int32} (h1 : nt v = some v1) (h2 : n4 v1 = some (r2, v2)) (h3 : n100 v2 = some (r3, v3)) :
    ((nt v).bind (fun v1 => ((n4 v1).bind (fun (r2, v2) => ((n100 v2).bind (fun (r3, v3) => (if 0 ≤ (v3 53 6) then (some v3) else (if (r2 < 0 ∨ 4 ≤ Int32.toNatClampNeg r2) then none else (some (jx_up v3 (46) (Int32.toNatClampNeg r2) r3)))))))))) = if 0 ≤ v3 53 6 then some v3 else if (r2 < 0 ∨ 4 ≤ Int32.toNatClampNeg r2) then none else some (jx_up v3 46 (Int32.toNatClampNeg r2) r3) := by
  simp only [h1, h2, h3, Option.bind_some]
theorem ax_pi {n1 na nc : jx_V → Option jx_V} {v w1 w2 w3 : jx_V} (e1 : n1 v = some w1) (e2 : na w1 = some w2) (e3 : nc w2 = some w3) :
    ((n1 v).bind (fun v1 => ((na v1).bind (fun v2 => ((nc v2).bind (fun v3 => (if (v3 0 16) = 0 then (if ((3 + (v2 0 15)) < 0 ∨ 181 ≤ Int32.toNatClampNeg (3 + (v2 0 15))) then none else (some (jx_up v3 1 (Int32.toNatClampNeg (3 + (v2 0 15))) (v3 0 15)))) else (some v3)))))))) = if w3 0 16 = 0 then (if (3 + w2 0 15 < 0 ∨ 181 ≤ Int32.toNatClampNeg (3 + w2 0 15)) then none else some (jx_up w3 1 (Int32.toNatClampNeg (3 + w2 0 15)) (w3 0 15))) else some w3 := by
  simp only [e1, e2, e3, Option.bind_some]
theorem ax_rc {nt : jx_V → Option jx_V} {tl : jx_V → Option (Int32 × jx_V)} {tk : Int32 → jx_V → Option jx_V} {v v1 v2 : jx_V} {r2 : Int32} (h1 : nt v = some v1) (h2 : tl v1 = some (r2, v2)) :
    ((nt v).bind (fun v1 => ((tl v1).bind (fun (r2, v2) => (if 0 ≤ (v2 53 6) then (some v2) else ((tk r2 v2).bind (fun v4 => (some v4)))))))) = if 0 ≤ v2 53 6 then some v2 else tk r2 v2 := by
  simp only [h1, h2, Option.bind_some, bso]
theorem ax_kw {i0 i1 i2 i3 i4 i5 i6 : jx_V → Option (Int32 × jx_V)} {v : jx_V} {m : Nat → Bool} (h0 : i0 v = some (if m 0 = true then 1 else 0, v)) (h1 : i1 v = some (if m 1 = true then 1 else 0, v)) (h2 : i2 v = some (if m 2 = true then 1 else 0, v)) (h3 : i3 v = some (if m 3 = true then 1 else 0, v)) (h4 : i4 v = some (if m 4 = true then 1 else 0, v)) (h5 : i5 v = some (if m 5 = true then 1 else 0, v)) (h6 : i6 v = some (if m 6 = true then 1 else 0, v)) :
    (((i0 v).bind (fun (r1, v1) => (if r1 = 0 then ((i1 v1).bind (fun (r3, v3) => (if r3 = 0 then ((i2 v3).bind (fun (r5, v5) => (if r5 = 0 then ((i3 v5).bind (fun (r7, v7) => (if r7 = 0 then ((i4 v7).bind (fun (r9, v9) => (if r9 = 0 then ((i5 v9).bind (fun (r11, v11) => (if r11 = 0 then ((i6 v11).bind (fun (r13, v13) => (if r13 = 0 then (some ((-1), v13)) else (some (6, v13))))) else (some (5, v11))))) else (some (4, v9))))) else (some (3, v7))))) else (some (2, v5))))) else (some (1, v3))))) else (some (0, v1))))) : Option (Int32 × jx_V)) = some (kdf m, v) := by
  simp only [h0, h1, h2, h3, h4, h5, h6, Option.bind_some]
  unfold kdf
  cases m 0 <;> cases m 1 <;> cases m 2 <;> cases m 3 <;> cases m 4 <;> cases m 5 <;> cases m 6 <;> rfl
theorem ax_kh {wd : jx_V → Option (Int64 × jx_V)} {v : jx_V} {hh : Int64} {m : Nat → Bool} (h : wd v = some (hh, v)) (c0 : (lg_cmp hh 2552 = 0) = (m 0 = true)) (c1 : (lg_cmp hh 673957 = 0) = (m 1 = true)) (c2 : (lg_cmp hh 630948 = 0) = (m 2 = true)) (c3 : (lg_cmp hh 553136178 = 0) = (m 3 = true)) (c4 : (lg_cmp hh 24749811143 = 0) = (m 4 = true)) (c5 : (lg_cmp hh 8902245 = 0) = (m 5 = true)) (c6 : (lg_cmp hh 21486770 = 0) = (m 6 = true)) :
    (((wd v).bind (fun (r1, v1) => (if (lg_cmp r1 2552) = 0 then (some (0, v1)) else (if (lg_cmp r1 673957) = 0 then (some (1, v1)) else (if (lg_cmp r1 630948) = 0 then (some (2, v1)) else (if (lg_cmp r1 553136178) = 0 then (some (3, v1)) else (if (lg_cmp r1 24749811143) = 0 then (some (4, v1)) else (if (lg_cmp r1 8902245) = 0 then (some (5, v1)) else (if (lg_cmp r1 21486770) = 0 then (some (6, v1)) else (some ((-1), v1))))))))))) : Option (Int32 × jx_V)) = some (kdf m, v) := by
  simp only [h, Option.bind_some, c0, c1, c2, c3, c4, c5, c6]
  unfold kdf
  cases m 0 <;> cases m 1 <;> cases m 2 <;> cases m 3 <;> cases m 4 <;> cases m 5 <;> cases m 6 <;> rfl
theorem ax_ri {fh rc rp rw1 : jx_V → Option jx_V} {rt : Int32 → jx_V → Option jx_V} {kw i11 i15 i16 : jx_V → Option (Int32 × jx_V)} {v : jx_V} {k a b c : Int32} (h0 : kw v = some (k, v)) (h1 : i11 v = some (a, v)) (h2 : i15 v = some (b, v)) (h3 : i16 v = some (c, v)) (hab : a ≠ 0 → b = 0 ∧ c = 0) :
    ((kw v).bind (fun (r1, v1) => (if r1 < 0 then ((i11 v1).bind (fun (r3, v3) => (if r3 = 0 then ((i15 v3).bind (fun (r5, v5) => (if r5 = 0 then ((i16 v5).bind (fun (r7, v7) => (if r7 = 0 then ((fh v7).bind (fun v9 => (some v9))) else ((rc v7).bind (fun v10 => (some v10)))))) else ((rp v5).bind (fun v11 => (some v11)))))) else (if 10 ≤ (v3 33 5) then ((i15 v3).bind (fun (r13, v13) => (if r13 = 0 then ((i16 v13).bind (fun (r15, v15) => (if r15 = 0 then ((fh v15).bind (fun v17 => (some v17))) else ((rc v15).bind (fun v18 => (some v18)))))) else ((rp v13).bind (fun v19 => (some v19)))))) else ((rw1 v3).bind (fun v20 => (some v20))))))) else ((rt r1 v1).bind (fun v21 => (some v21)))))) = if k < 0 then (if a = 0 then (if b = 0 then (if c = 0 then fh v else rc v) else rp v) else if 10 ≤ v 33 5 then fh v else rw1 v) else rt k v := by
  simp only [h0, h1, h2, h3, Option.bind_some, bso]
  by_cases c1 : a = 0
  · simp only [if_pos c1]
  · obtain ⟨x, y⟩ := hab c1
    simp only [if_neg c1, x, y, z00, if_true]
theorem ax_it {wi pi n1 n0 lo : jx_V → Option jx_V} {ti : Int32 → jx_V → Option jx_V} {kh : jx_V → Option (Int32 × jx_V)} {wd : jx_V → Option (Int64 × jx_V)} {at_ : Int32 → Int32 → jx_V → Option (Int32 × jx_V)} {v w2 w3 : jx_V} {k : Int32} {hh xw xp xc : Int64} (h0 : kh v = some (k, v)) (h1 : wd v = some (hh, v)) (e3 : (if lg_cmp hh xc = 0 then n1 v else n0 v) = some w2) (e4 : (if w2 0 16 = 0 then lo w2 else some w2) = some w3) :
    ((kh v).bind (fun (r1, v1) => (if r1 < 0 then ((wd v1).bind (fun (r3, v3) => (if (lg_cmp r3 xw) = 0 then ((wi v3).bind (fun v28 => (some v28))) else ((wd v3).bind (fun (r5, v5) => (if (lg_cmp r5 xp) = 0 then ((pi v5).bind (fun v27 => (some v27))) else ((wd v5).bind (fun (r7, v7) => (if (lg_cmp r7 xc) = 0 then ((n1 v7).bind (fun v18 => (if (v18 0 16) = 0 then ((lo v18).bind (fun v23 => (if (v23 0 16) = 0 then ((at_ (v23 0 15) 0 v23).bind (fun (r25, v25) => (if (r25 < 0 ∨ 181 ≤ Int32.toNatClampNeg r25) then none else (some (jx_up v25 1 (Int32.toNatClampNeg r25) (-1)))))) else (some v23)))) else (if (v18 0 16) = 0 then ((at_ (v18 0 15) 0 v18).bind (fun (r21, v21) => (if (r21 < 0 ∨ 181 ≤ Int32.toNatClampNeg r21) then none else (some (jx_up v21 1 (Int32.toNatClampNeg r21) (-1)))))) else (some v18))))) else ((n0 v7).bind (fun v9 => (if (v9 0 16) = 0 then ((lo v9).bind (fun v14 => (if (v14 0 16) = 0 then ((at_ (v14 0 15) 0 v14).bind (fun (r16, v16) => (if (r16 < 0 ∨ 181 ≤ Int32.toNatClampNeg r16) then none else (some (jx_up v16 1 (Int32.toNatClampNeg r16) (-1)))))) else (some v14)))) else (if (v9 0 16) = 0 then ((at_ (v9 0 15) 0 v9).bind (fun (r12, v12) => (if (r12 < 0 ∨ 181 ≤ Int32.toNatClampNeg r12) then none else (some (jx_up v12 1 (Int32.toNatClampNeg r12) (-1)))))) else (some v9)))))))))))))) else ((ti r1 v1).bind (fun v29 => (some v29)))))) = if k < 0 then (if lg_cmp hh xw = 0 then wi v else if lg_cmp hh xp = 0 then pi v else if w3 0 16 = 0 then (at_ (w3 0 15) 0 w3).bind (fun (r25, v25) => if (r25 < 0 ∨ 181 ≤ Int32.toNatClampNeg r25) then none else some (jx_up v25 1 (Int32.toNatClampNeg r25) (-1))) else some w3) else ti k v := by
  simp only [h0, h1, Option.bind_some, bso]
  by_cases c : lg_cmp hh xc = 0
  · rw [if_pos c] at e3
    simp only [if_pos c, e3, Option.bind_some]
    by_cases d : w2 0 16 = 0
    · rw [if_pos d] at e4
      simp only [if_pos d, e4, Option.bind_some]
    · rw [if_neg d] at e4
      injection e4 with e4
      subst e4
      simp only [if_neg d]
  · rw [if_neg c] at e3
    simp only [if_neg c, e3, Option.bind_some]
    by_cases d : w2 0 16 = 0
    · rw [if_pos d] at e4
      simp only [if_pos d, e4, Option.bind_some]
    · rw [if_neg d] at e4
      injection e4 with e4
      subst e4
      simp only [if_neg d]
