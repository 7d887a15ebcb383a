def ibc (x0 : Int32) : Int32 :=
  let x1 := x0 - ((x0.toUInt32 >>> (Int32.toUInt32 1 &&& Int32.toUInt32 31)).toInt32 &&& 1431655765)
  let x2 := (x1 &&& 858993459) + ((x1.toUInt32 >>> (Int32.toUInt32 2 &&& Int32.toUInt32 31)).toInt32 &&& 858993459)
  let x3 := (x2 + (x2.toUInt32 >>> (Int32.toUInt32 4 &&& Int32.toUInt32 31)).toInt32) &&& 252645135
  let x4 := x3 + (x3.toUInt32 >>> (Int32.toUInt32 8 &&& Int32.toUInt32 31)).toInt32
  let x5 := x4 + (x4.toUInt32 >>> (Int32.toUInt32 16 &&& Int32.toUInt32 31)).toInt32
  x5 &&& 63
def lbc (x0 : Int64) : Int32 :=
  let x1 := x0 - ((x0.toUInt64 >>> ((1 : Int32).toInt64.toUInt64 &&& Int64.toUInt64 63)).toInt64 &&& 6148914691236517205)
  let x2 := (x1 &&& 3689348814741910323) + ((x1.toUInt64 >>> ((2 : Int32).toInt64.toUInt64 &&& Int64.toUInt64 63)).toInt64 &&& 3689348814741910323)
  let x3 := (x2 + (x2.toUInt64 >>> ((4 : Int32).toInt64.toUInt64 &&& Int64.toUInt64 63)).toInt64) &&& 1085102592571150095
  let x4 := x3 + (x3.toUInt64 >>> ((8 : Int32).toInt64.toUInt64 &&& Int64.toUInt64 63)).toInt64
  let x5 := x4 + (x4.toUInt64 >>> ((16 : Int32).toInt64.toUInt64 &&& Int64.toUInt64 63)).toInt64
  let x6 := x5 + (x5.toUInt64 >>> ((32 : Int32).toInt64.toUInt64 &&& Int64.toUInt64 63)).toInt64
  x6.toInt32 &&& 127
def maxI (a b : Int32) : Int32 := if a < b then b else a
def minI (a b : Int32) : Int32 := if b < a then b else a
def ush (x : Int32) (n : Int32) : Int32 := (x.toUInt32 >>> (n.toUInt32 &&& Int32.toUInt32 31)).toInt32
def ntz (i0 : Int32) : Int32 :=
  let i := (i0 ^^^ (-1)) &&& (i0 - 1)
  if 0 < i then
    let p1 : Int32 × Int32 := if i ≤ 65536 then (1, i) else (1 + 16, ush i 16)
    let p2 : Int32 × Int32 := if p1.2 ≤ 256 then p1 else (p1.1 + 8, ush p1.2 8)
    let p3 : Int32 × Int32 := if p2.2 ≤ 16 then p2 else (p2.1 + 4, ush p2.2 4)
    let p4 : Int32 × Int32 := if p3.2 ≤ 4 then p3 else (p3.1 + 2, ush p3.2 2)
    p4.1 + ush p4.2 1
  else i &&& 32
theorem cm_J13_bitCount_95d88 {G : ab_G} (hG : ab_GG G) {h : List ab_E} {x : Int64} : ab_CM G mJ13_bitCount_95d88 [.long x] h (some (.int (lbc x))) h := by
  refine ab_meth (l0 := [(0, .long x)]) hG (by decide +kernel) rfl (Nat.le_of_ble_eq_true rfl) (Nat.le_refl _) (Nat.le_refl _) (fun X hX hF => ?_)
  refine ab_lload_n hX dJ13_bitCount_95d88_0 mm0 ?_
  refine ab_lload_n hX dJ13_bitCount_95d88_1 mm0 ?_
  refine ab_iconst (v := 1) hX dJ13_bitCount_95d88_2 (by decide) ?_
  refine ab_lushr hX dJ13_bitCount_95d88_3 ?_
  refine ab_ldc2 hX dJ13_bitCount_95d88_4 tw_608 ?_
  refine ab_land hX dJ13_bitCount_95d88_7 ?_
  refine ab_lsub hX dJ13_bitCount_95d88_8 ?_
  refine ab_lstore_n hX dJ13_bitCount_95d88_9 rfl (by decide) rfl ?_
  refine ab_lload_n hX dJ13_bitCount_95d88_10 mm0 ?_
  refine ab_ldc2 hX dJ13_bitCount_95d88_11 tw_609 ?_
  refine ab_land hX dJ13_bitCount_95d88_14 ?_
  refine ab_lload_n hX dJ13_bitCount_95d88_15 mm0 ?_
  refine ab_iconst (v := 2) hX dJ13_bitCount_95d88_16 (by decide) ?_
  refine ab_lushr hX dJ13_bitCount_95d88_17 ?_
  refine ab_ldc2 hX dJ13_bitCount_95d88_18 tw_609 ?_
  refine ab_land hX dJ13_bitCount_95d88_21 ?_
  refine ab_ladd hX dJ13_bitCount_95d88_22 ?_
  refine ab_lstore_n hX dJ13_bitCount_95d88_23 rfl (by decide) rfl ?_
  refine ab_lload_n hX dJ13_bitCount_95d88_24 mm0 ?_
  refine ab_lload_n hX dJ13_bitCount_95d88_25 mm0 ?_
  refine ab_iconst (v := 4) hX dJ13_bitCount_95d88_26 (by decide) ?_
  refine ab_lushr hX dJ13_bitCount_95d88_27 ?_
  refine ab_ladd hX dJ13_bitCount_95d88_28 ?_
  refine ab_ldc2 hX dJ13_bitCount_95d88_29 tw_610 ?_
  refine ab_land hX dJ13_bitCount_95d88_32 ?_
  refine ab_lstore_n hX dJ13_bitCount_95d88_33 rfl (by decide) rfl ?_
  refine ab_lload_n hX dJ13_bitCount_95d88_34 mm0 ?_
  refine ab_lload_n hX dJ13_bitCount_95d88_35 mm0 ?_
  refine ab_bipush (v := 8) hX dJ13_bitCount_95d88_36 (by decide) ?_
  refine ab_lushr hX dJ13_bitCount_95d88_38 ?_
  refine ab_ladd hX dJ13_bitCount_95d88_39 ?_
  refine ab_lstore_n hX dJ13_bitCount_95d88_40 rfl (by decide) rfl ?_
  refine ab_lload_n hX dJ13_bitCount_95d88_41 mm0 ?_
  refine ab_lload_n hX dJ13_bitCount_95d88_42 mm0 ?_
  refine ab_bipush (v := 16) hX dJ13_bitCount_95d88_43 (by decide) ?_
  refine ab_lushr hX dJ13_bitCount_95d88_45 ?_
  refine ab_ladd hX dJ13_bitCount_95d88_46 ?_
  refine ab_lstore_n hX dJ13_bitCount_95d88_47 rfl (by decide) rfl ?_
  refine ab_lload_n hX dJ13_bitCount_95d88_48 mm0 ?_
  refine ab_lload_n hX dJ13_bitCount_95d88_49 mm0 ?_
  refine ab_bipush (v := 32) hX dJ13_bitCount_95d88_50 (by decide) ?_
  refine ab_lushr hX dJ13_bitCount_95d88_52 ?_
  refine ab_ladd hX dJ13_bitCount_95d88_53 ?_
  refine ab_lstore_n hX dJ13_bitCount_95d88_54 rfl (by decide) rfl ?_
  refine ab_lload_n hX dJ13_bitCount_95d88_55 mm0 ?_
  refine ab_l2i hX dJ13_bitCount_95d88_56 ?_
  refine ab_bipush (v := 127) hX dJ13_bitCount_95d88_57 (by decide) ?_
  refine ab_iand hX dJ13_bitCount_95d88_59 ?_
  exact ab_ireturn hX hF dJ13_bitCount_95d88_60 rfl (by rfl) (congrArg some (congrArg Value.int (by rfl))) (by rfl)
theorem cm_J6_bitCount_0f7a4 {G : ab_G} (hG : ab_GG G) {h : List ab_E} {x : Int32} : ab_CM G mJ6_bitCount_0f7a4 [.int x] h (some (.int (ibc x))) h := by
  refine ab_meth (l0 := [(0, .int x)]) hG (by decide +kernel) rfl (Nat.le_of_ble_eq_true rfl) (Nat.le_refl _) (Nat.le_refl _) (fun X hX hF => ?_)
  refine ab_iload_n hX dJ6_bitCount_0f7a4_0 mm0 ?_
  refine ab_iload_n hX dJ6_bitCount_0f7a4_1 mm0 ?_
  refine ab_iconst (v := 1) hX dJ6_bitCount_0f7a4_2 (by decide) ?_
  refine ab_iushr hX dJ6_bitCount_0f7a4_3 ?_
  refine ab_ldcw hX dJ6_bitCount_0f7a4_4 tw_654 ?_
  refine ab_iand hX dJ6_bitCount_0f7a4_7 ?_
  refine ab_isub hX dJ6_bitCount_0f7a4_8 ?_
  refine ab_istore_n hX dJ6_bitCount_0f7a4_9 rfl (by decide) rfl ?_
  refine ab_iload_n hX dJ6_bitCount_0f7a4_10 mm0 ?_
  refine ab_ldcw hX dJ6_bitCount_0f7a4_11 tw_655 ?_
  refine ab_iand hX dJ6_bitCount_0f7a4_14 ?_
  refine ab_iload_n hX dJ6_bitCount_0f7a4_15 mm0 ?_
  refine ab_iconst (v := 2) hX dJ6_bitCount_0f7a4_16 (by decide) ?_
  refine ab_iushr hX dJ6_bitCount_0f7a4_17 ?_
  refine ab_ldcw hX dJ6_bitCount_0f7a4_18 tw_655 ?_
  refine ab_iand hX dJ6_bitCount_0f7a4_21 ?_
  refine ab_iadd hX dJ6_bitCount_0f7a4_22 ?_
  refine ab_istore_n hX dJ6_bitCount_0f7a4_23 rfl (by decide) rfl ?_
  refine ab_iload_n hX dJ6_bitCount_0f7a4_24 mm0 ?_
  refine ab_iload_n hX dJ6_bitCount_0f7a4_25 mm0 ?_
  refine ab_iconst (v := 4) hX dJ6_bitCount_0f7a4_26 (by decide) ?_
  refine ab_iushr hX dJ6_bitCount_0f7a4_27 ?_
  refine ab_iadd hX dJ6_bitCount_0f7a4_28 ?_
  refine ab_ldcw hX dJ6_bitCount_0f7a4_29 tw_656 ?_
  refine ab_iand hX dJ6_bitCount_0f7a4_32 ?_
  refine ab_istore_n hX dJ6_bitCount_0f7a4_33 rfl (by decide) rfl ?_
  refine ab_iload_n hX dJ6_bitCount_0f7a4_34 mm0 ?_
  refine ab_iload_n hX dJ6_bitCount_0f7a4_35 mm0 ?_
  refine ab_bipush (v := 8) hX dJ6_bitCount_0f7a4_36 (by decide) ?_
  refine ab_iushr hX dJ6_bitCount_0f7a4_38 ?_
  refine ab_iadd hX dJ6_bitCount_0f7a4_39 ?_
  refine ab_istore_n hX dJ6_bitCount_0f7a4_40 rfl (by decide) rfl ?_
  refine ab_iload_n hX dJ6_bitCount_0f7a4_41 mm0 ?_
  refine ab_iload_n hX dJ6_bitCount_0f7a4_42 mm0 ?_
  refine ab_bipush (v := 16) hX dJ6_bitCount_0f7a4_43 (by decide) ?_
  refine ab_iushr hX dJ6_bitCount_0f7a4_45 ?_
  refine ab_iadd hX dJ6_bitCount_0f7a4_46 ?_
  refine ab_istore_n hX dJ6_bitCount_0f7a4_47 rfl (by decide) rfl ?_
  refine ab_iload_n hX dJ6_bitCount_0f7a4_48 mm0 ?_
  refine ab_bipush (v := 63) hX dJ6_bitCount_0f7a4_49 (by decide) ?_
  refine ab_iand hX dJ6_bitCount_0f7a4_51 ?_
  exact ab_ireturn hX hF dJ6_bitCount_0f7a4_52 rfl (by rfl) (congrArg some (congrArg Value.int (by rfl))) (by rfl)
theorem ab_mmax {G : ab_G} {M : ab_M} {X : ab_X} {pc : Nat} {l : List (Nat × Value)} {rest : List Value} {h : List ab_E} {i : Nat} {x y : Int32} (hX : ab_Good G M X) (hm : decode M.2.1 pc = .ok (.invokestatic i, 3)) (hw : Cond.methodLink M.1.cls i ⟨"java/lang/Math", "max", "(II)I"⟩ ∈ ab_Tg) (hrm : 1 ≤ M.2.2.2.2.1 ∧ 21 ≤ M.2.2.2.2.2) (hW : (rest.map Value.category).sum ≤ 8)
    (kk : ab_WA G M X (pc + 3) l (.int (maxI x y) :: rest) h) : ab_WA G M X pc l (.int y :: .int x :: rest) h := by
  obtain ⟨p, e, R, s, m, args, below, meth, c, Q, h0⟩ := X
  obtain ⟨hx, hb, hml, hr, hlk, hown, hts, hal, hsz, hkp, hnm, hrf, hrl, hG⟩ := hX
  have b1 := kk.1
  have b2 := kk.2.1
  refine ⟨kk.1, kk.2.1, fun ls H locs g1 g2 hl hR hS => ?_⟩
  have w := kk.2.2 ls H locs g1 g2 hl hR hS
  have e0 : ((rest.map (ab_ren G)).map fun v => v.category).sum ≤ 8 := by rw [ab_catsum]; exact hW
  have hc1 : Cond.code Lib.Math.max.name Lib.Math.max.code 2 (some .int) ∈ ab_Tg := tw_132
  exact va_mmax hx hb (hml.trans hl.1.symm) hown (hts _ hw) (hts _ (tw_131)) (hts _ (tw_26)) (hts _ hc1) (by rw [hrf]; exact hrm.1) (by rw [hrl]; omega) (by omega) (by omega) hm w
theorem ab_mmin {G : ab_G} {M : ab_M} {X : ab_X} {pc : Nat} {l : List (Nat × Value)} {rest : List Value} {h : List ab_E} {i : Nat} {x y : Int32} (hX : ab_Good G M X) (hm : decode M.2.1 pc = .ok (.invokestatic i, 3)) (hw : Cond.methodLink M.1.cls i ⟨"java/lang/Math", "min", "(II)I"⟩ ∈ ab_Tg) (hrm : 1 ≤ M.2.2.2.2.1 ∧ 21 ≤ M.2.2.2.2.2) (hW : (rest.map Value.category).sum ≤ 8)
    (kk : ab_WA G M X (pc + 3) l (.int (minI x y) :: rest) h) : ab_WA G M X pc l (.int y :: .int x :: rest) h := by
  obtain ⟨p, e, R, s, m, args, below, meth, c, Q, h0⟩ := X
  obtain ⟨hx, hb, hml, hr, hlk, hown, hts, hal, hsz, hkp, hnm, hrf, hrl, hG⟩ := hX
  have b1 := kk.1
  have b2 := kk.2.1
  refine ⟨kk.1, kk.2.1, fun ls H locs g1 g2 hl hR hS => ?_⟩
  have w := kk.2.2 ls H locs g1 g2 hl hR hS
  have e0 : ((rest.map (ab_ren G)).map fun v => v.category).sum ≤ 8 := by rw [ab_catsum]; exact hW
  have hc1 : Cond.code Lib.Math.min.name Lib.Math.min.code 2 (some .int) ∈ ab_Tg := tw_166
  exact va_mmin hx hb (hml.trans hl.1.symm) hown (hts _ hw) (hts _ (tw_165)) (hts _ (tw_26)) (hts _ hc1) (by rw [hrf]; exact hrm.1) (by rw [hrl]; omega) (by omega) (by omega) hm w
theorem cm_J6_numberOfTrailingZeros_0f7a4 {G : ab_G} (hG : ab_GG G) {h : List ab_E} {x : Int32} : ab_CM G mJ6_numberOfTrailingZeros_0f7a4 [.int x] h (some (.int (ntz x))) h := by
  refine ab_meth (l0 := [(0, .int x)]) hG (by decide +kernel) rfl (Nat.le_of_ble_eq_true rfl) (Nat.le_refl _) (Nat.le_refl _) (fun X hX hF => ?_)
  refine ab_iload_n hX dJ6_numberOfTrailingZeros_0f7a4_0 mm0 ?_
  refine ab_iconst (v := (-1)) hX dJ6_numberOfTrailingZeros_0f7a4_1 (by decide) ?_
  refine ab_ixor hX dJ6_numberOfTrailingZeros_0f7a4_2 ?_
  refine ab_iload_n hX dJ6_numberOfTrailingZeros_0f7a4_3 mm0 ?_
  refine ab_iconst (v := 1) hX dJ6_numberOfTrailingZeros_0f7a4_4 (by decide) ?_
  refine ab_isub hX dJ6_numberOfTrailingZeros_0f7a4_5 ?_
  refine ab_iand hX dJ6_numberOfTrailingZeros_0f7a4_6 ?_
  refine ab_istore_n hX dJ6_numberOfTrailingZeros_0f7a4_7 rfl (by decide) rfl ?_
  refine ab_iload_n hX dJ6_numberOfTrailingZeros_0f7a4_8 mm0 ?_
  refine ab_ifgt (tgt := 17) hX dJ6_numberOfTrailingZeros_0f7a4_9 (by decide) (fun h_1 => ?_) (fun h_1 => ?_)
  ·
    refine ab_iconst (v := 1) hX dJ6_numberOfTrailingZeros_0f7a4_17 (by decide) ?_
    refine ab_istore_n hX dJ6_numberOfTrailingZeros_0f7a4_18 rfl (by decide) rfl ?_
    refine ab_iload_n hX dJ6_numberOfTrailingZeros_0f7a4_19 mm1 ?_
    refine ab_ldcw hX dJ6_numberOfTrailingZeros_0f7a4_20 tw_637 ?_
    refine ab_icmple (tgt := 34) hX dJ6_numberOfTrailingZeros_0f7a4_23 (by decide) (fun h_2 => ?_) (fun h_2 => ?_)
    ·
      refine ab_iload_n hX dJ6_numberOfTrailingZeros_0f7a4_34 mm1 ?_
      refine ab_sipush (v := 256) hX dJ6_numberOfTrailingZeros_0f7a4_35 (by decide) ?_
      refine ab_icmple (tgt := 49) hX dJ6_numberOfTrailingZeros_0f7a4_38 (by decide) (fun h_3 => ?_) (fun h_3 => ?_)
      ·
        refine ab_iload_n hX dJ6_numberOfTrailingZeros_0f7a4_49 mm1 ?_
        refine ab_bipush (v := 16) hX dJ6_numberOfTrailingZeros_0f7a4_50 (by decide) ?_
        refine ab_icmple (tgt := 62) hX dJ6_numberOfTrailingZeros_0f7a4_52 (by decide) (fun h_4 => ?_) (fun h_4 => ?_)
        ·
          refine ab_iload_n hX dJ6_numberOfTrailingZeros_0f7a4_62 mm1 ?_
          refine ab_iconst (v := 4) hX dJ6_numberOfTrailingZeros_0f7a4_63 (by decide) ?_
          refine ab_icmple (tgt := 74) hX dJ6_numberOfTrailingZeros_0f7a4_64 (by decide) (fun h_5 => ?_) (fun h_5 => ?_)
          ·
            refine ab_iload_n hX dJ6_numberOfTrailingZeros_0f7a4_74 mm0 ?_
            refine ab_iload_n hX dJ6_numberOfTrailingZeros_0f7a4_75 mm1 ?_
            refine ab_iconst (v := 1) hX dJ6_numberOfTrailingZeros_0f7a4_76 (by decide) ?_
            refine ab_iushr hX dJ6_numberOfTrailingZeros_0f7a4_77 ?_
            refine ab_iadd hX dJ6_numberOfTrailingZeros_0f7a4_78 ?_
            exact ab_ireturn hX hF dJ6_numberOfTrailingZeros_0f7a4_79 rfl (by rfl) (congrArg some (congrArg Value.int (by first | (simp only [ntz, ush, h_1, h_2, h_3, h_4, h_5, ↓reduceIte]; done) | (simp only [ntz, ush, h_1, h_2, h_3, h_4, h_5, ↓reduceIte]; rfl)))) (by rfl)
          ·
            refine ab_iinc hX dJ6_numberOfTrailingZeros_0f7a4_67 mm0 rfl (by decide) rfl ?_
            refine ab_iload_n hX dJ6_numberOfTrailingZeros_0f7a4_70 mm1 ?_
            refine ab_iconst (v := 2) hX dJ6_numberOfTrailingZeros_0f7a4_71 (by decide) ?_
            refine ab_iushr hX dJ6_numberOfTrailingZeros_0f7a4_72 ?_
            refine ab_istore_n hX dJ6_numberOfTrailingZeros_0f7a4_73 rfl (by decide) rfl ?_
            refine ab_iload_n hX dJ6_numberOfTrailingZeros_0f7a4_74 mm1 ?_
            refine ab_iload_n hX dJ6_numberOfTrailingZeros_0f7a4_75 mm0 ?_
            refine ab_iconst (v := 1) hX dJ6_numberOfTrailingZeros_0f7a4_76 (by decide) ?_
            refine ab_iushr hX dJ6_numberOfTrailingZeros_0f7a4_77 ?_
            refine ab_iadd hX dJ6_numberOfTrailingZeros_0f7a4_78 ?_
            exact ab_ireturn hX hF dJ6_numberOfTrailingZeros_0f7a4_79 rfl (by rfl) (congrArg some (congrArg Value.int (by first | (simp only [ntz, ush, h_1, h_2, h_3, h_4, h_5, ↓reduceIte]; done) | (simp only [ntz, ush, h_1, h_2, h_3, h_4, h_5, ↓reduceIte]; rfl)))) (by rfl)
        ·
          refine ab_iinc hX dJ6_numberOfTrailingZeros_0f7a4_55 mm0 rfl (by decide) rfl ?_
          refine ab_iload_n hX dJ6_numberOfTrailingZeros_0f7a4_58 mm1 ?_
          refine ab_iconst (v := 4) hX dJ6_numberOfTrailingZeros_0f7a4_59 (by decide) ?_
          refine ab_iushr hX dJ6_numberOfTrailingZeros_0f7a4_60 ?_
          refine ab_istore_n hX dJ6_numberOfTrailingZeros_0f7a4_61 rfl (by decide) rfl ?_
          refine ab_iload_n hX dJ6_numberOfTrailingZeros_0f7a4_62 mm0 ?_
          refine ab_iconst (v := 4) hX dJ6_numberOfTrailingZeros_0f7a4_63 (by decide) ?_
          refine ab_icmple (tgt := 74) hX dJ6_numberOfTrailingZeros_0f7a4_64 (by decide) (fun h_6 => ?_) (fun h_6 => ?_)
          ·
            refine ab_iload_n hX dJ6_numberOfTrailingZeros_0f7a4_74 mm1 ?_
            refine ab_iload_n hX dJ6_numberOfTrailingZeros_0f7a4_75 mm0 ?_
            refine ab_iconst (v := 1) hX dJ6_numberOfTrailingZeros_0f7a4_76 (by decide) ?_
            refine ab_iushr hX dJ6_numberOfTrailingZeros_0f7a4_77 ?_
            refine ab_iadd hX dJ6_numberOfTrailingZeros_0f7a4_78 ?_
            exact ab_ireturn hX hF dJ6_numberOfTrailingZeros_0f7a4_79 rfl (by rfl) (congrArg some (congrArg Value.int (by first | (simp only [ntz, ush, h_1, h_2, h_3, h_4, h_6, ↓reduceIte]; done) | (simp only [ntz, ush, h_1, h_2, h_3, h_4, h_6, ↓reduceIte]; rfl)))) (by rfl)
          ·
            refine ab_iinc hX dJ6_numberOfTrailingZeros_0f7a4_67 mm1 rfl (by decide) rfl ?_
            refine ab_iload_n hX dJ6_numberOfTrailingZeros_0f7a4_70 mm1 ?_
            refine ab_iconst (v := 2) hX dJ6_numberOfTrailingZeros_0f7a4_71 (by decide) ?_
            refine ab_iushr hX dJ6_numberOfTrailingZeros_0f7a4_72 ?_
            refine ab_istore_n hX dJ6_numberOfTrailingZeros_0f7a4_73 rfl (by decide) rfl ?_
            refine ab_iload_n hX dJ6_numberOfTrailingZeros_0f7a4_74 mm1 ?_
            refine ab_iload_n hX dJ6_numberOfTrailingZeros_0f7a4_75 mm0 ?_
            refine ab_iconst (v := 1) hX dJ6_numberOfTrailingZeros_0f7a4_76 (by decide) ?_
            refine ab_iushr hX dJ6_numberOfTrailingZeros_0f7a4_77 ?_
            refine ab_iadd hX dJ6_numberOfTrailingZeros_0f7a4_78 ?_
            exact ab_ireturn hX hF dJ6_numberOfTrailingZeros_0f7a4_79 rfl (by rfl) (congrArg some (congrArg Value.int (by first | (simp only [ntz, ush, h_1, h_2, h_3, h_4, h_6, ↓reduceIte]; done) | (simp only [ntz, ush, h_1, h_2, h_3, h_4, h_6, ↓reduceIte]; rfl)))) (by rfl)
      ·
        refine ab_iinc hX dJ6_numberOfTrailingZeros_0f7a4_41 mm0 rfl (by decide) rfl ?_
        refine ab_iload_n hX dJ6_numberOfTrailingZeros_0f7a4_44 mm1 ?_
        refine ab_bipush (v := 8) hX dJ6_numberOfTrailingZeros_0f7a4_45 (by decide) ?_
        refine ab_iushr hX dJ6_numberOfTrailingZeros_0f7a4_47 ?_
        refine ab_istore_n hX dJ6_numberOfTrailingZeros_0f7a4_48 rfl (by decide) rfl ?_
        refine ab_iload_n hX dJ6_numberOfTrailingZeros_0f7a4_49 mm0 ?_
        refine ab_bipush (v := 16) hX dJ6_numberOfTrailingZeros_0f7a4_50 (by decide) ?_
        refine ab_icmple (tgt := 62) hX dJ6_numberOfTrailingZeros_0f7a4_52 (by decide) (fun h_7 => ?_) (fun h_7 => ?_)
        ·
          refine ab_iload_n hX dJ6_numberOfTrailingZeros_0f7a4_62 mm0 ?_
          refine ab_iconst (v := 4) hX dJ6_numberOfTrailingZeros_0f7a4_63 (by decide) ?_
          refine ab_icmple (tgt := 74) hX dJ6_numberOfTrailingZeros_0f7a4_64 (by decide) (fun h_8 => ?_) (fun h_8 => ?_)
          ·
            refine ab_iload_n hX dJ6_numberOfTrailingZeros_0f7a4_74 mm1 ?_
            refine ab_iload_n hX dJ6_numberOfTrailingZeros_0f7a4_75 mm0 ?_
            refine ab_iconst (v := 1) hX dJ6_numberOfTrailingZeros_0f7a4_76 (by decide) ?_
            refine ab_iushr hX dJ6_numberOfTrailingZeros_0f7a4_77 ?_
            refine ab_iadd hX dJ6_numberOfTrailingZeros_0f7a4_78 ?_
            exact ab_ireturn hX hF dJ6_numberOfTrailingZeros_0f7a4_79 rfl (by rfl) (congrArg some (congrArg Value.int (by first | (simp only [ntz, ush, h_1, h_2, h_3, h_7, h_8, ↓reduceIte]; done) | (simp only [ntz, ush, h_1, h_2, h_3, h_7, h_8, ↓reduceIte]; rfl)))) (by rfl)
          ·
            refine ab_iinc hX dJ6_numberOfTrailingZeros_0f7a4_67 mm1 rfl (by decide) rfl ?_
            refine ab_iload_n hX dJ6_numberOfTrailingZeros_0f7a4_70 mm1 ?_
            refine ab_iconst (v := 2) hX dJ6_numberOfTrailingZeros_0f7a4_71 (by decide) ?_
            refine ab_iushr hX dJ6_numberOfTrailingZeros_0f7a4_72 ?_
            refine ab_istore_n hX dJ6_numberOfTrailingZeros_0f7a4_73 rfl (by decide) rfl ?_
            refine ab_iload_n hX dJ6_numberOfTrailingZeros_0f7a4_74 mm1 ?_
            refine ab_iload_n hX dJ6_numberOfTrailingZeros_0f7a4_75 mm0 ?_
            refine ab_iconst (v := 1) hX dJ6_numberOfTrailingZeros_0f7a4_76 (by decide) ?_
            refine ab_iushr hX dJ6_numberOfTrailingZeros_0f7a4_77 ?_
            refine ab_iadd hX dJ6_numberOfTrailingZeros_0f7a4_78 ?_
            exact ab_ireturn hX hF dJ6_numberOfTrailingZeros_0f7a4_79 rfl (by rfl) (congrArg some (congrArg Value.int (by first | (simp only [ntz, ush, h_1, h_2, h_3, h_7, h_8, ↓reduceIte]; done) | (simp only [ntz, ush, h_1, h_2, h_3, h_7, h_8, ↓reduceIte]; rfl)))) (by rfl)
        ·
          refine ab_iinc hX dJ6_numberOfTrailingZeros_0f7a4_55 mm1 rfl (by decide) rfl ?_
          refine ab_iload_n hX dJ6_numberOfTrailingZeros_0f7a4_58 mm1 ?_
          refine ab_iconst (v := 4) hX dJ6_numberOfTrailingZeros_0f7a4_59 (by decide) ?_
          refine ab_iushr hX dJ6_numberOfTrailingZeros_0f7a4_60 ?_
          refine ab_istore_n hX dJ6_numberOfTrailingZeros_0f7a4_61 rfl (by decide) rfl ?_
          refine ab_iload_n hX dJ6_numberOfTrailingZeros_0f7a4_62 mm0 ?_
          refine ab_iconst (v := 4) hX dJ6_numberOfTrailingZeros_0f7a4_63 (by decide) ?_
          refine ab_icmple (tgt := 74) hX dJ6_numberOfTrailingZeros_0f7a4_64 (by decide) (fun h_9 => ?_) (fun h_9 => ?_)
          ·
            refine ab_iload_n hX dJ6_numberOfTrailingZeros_0f7a4_74 mm1 ?_
            refine ab_iload_n hX dJ6_numberOfTrailingZeros_0f7a4_75 mm0 ?_
            refine ab_iconst (v := 1) hX dJ6_numberOfTrailingZeros_0f7a4_76 (by decide) ?_
            refine ab_iushr hX dJ6_numberOfTrailingZeros_0f7a4_77 ?_
            refine ab_iadd hX dJ6_numberOfTrailingZeros_0f7a4_78 ?_
            exact ab_ireturn hX hF dJ6_numberOfTrailingZeros_0f7a4_79 rfl (by rfl) (congrArg some (congrArg Value.int (by first | (simp only [ntz, ush, h_1, h_2, h_3, h_7, h_9, ↓reduceIte]; done) | (simp only [ntz, ush, h_1, h_2, h_3, h_7, h_9, ↓reduceIte]; rfl)))) (by rfl)
          ·
            refine ab_iinc hX dJ6_numberOfTrailingZeros_0f7a4_67 mm1 rfl (by decide) rfl ?_
            refine ab_iload_n hX dJ6_numberOfTrailingZeros_0f7a4_70 mm1 ?_
            refine ab_iconst (v := 2) hX dJ6_numberOfTrailingZeros_0f7a4_71 (by decide) ?_
            refine ab_iushr hX dJ6_numberOfTrailingZeros_0f7a4_72 ?_
            refine ab_istore_n hX dJ6_numberOfTrailingZeros_0f7a4_73 rfl (by decide) rfl ?_
            refine ab_iload_n hX dJ6_numberOfTrailingZeros_0f7a4_74 mm1 ?_
            refine ab_iload_n hX dJ6_numberOfTrailingZeros_0f7a4_75 mm0 ?_
            refine ab_iconst (v := 1) hX dJ6_numberOfTrailingZeros_0f7a4_76 (by decide) ?_
            refine ab_iushr hX dJ6_numberOfTrailingZeros_0f7a4_77 ?_
            refine ab_iadd hX dJ6_numberOfTrailingZeros_0f7a4_78 ?_
            exact ab_ireturn hX hF dJ6_numberOfTrailingZeros_0f7a4_79 rfl (by rfl) (congrArg some (congrArg Value.int (by first | (simp only [ntz, ush, h_1, h_2, h_3, h_7, h_9, ↓reduceIte]; done) | (simp only [ntz, ush, h_1, h_2, h_3, h_7, h_9, ↓reduceIte]; rfl)))) (by rfl)
    ·
      refine ab_iinc hX dJ6_numberOfTrailingZeros_0f7a4_26 mm0 rfl (by decide) rfl ?_
      refine ab_iload_n hX dJ6_numberOfTrailingZeros_0f7a4_29 mm1 ?_
      refine ab_bipush (v := 16) hX dJ6_numberOfTrailingZeros_0f7a4_30 (by decide) ?_
      refine ab_iushr hX dJ6_numberOfTrailingZeros_0f7a4_32 ?_
      refine ab_istore_n hX dJ6_numberOfTrailingZeros_0f7a4_33 rfl (by decide) rfl ?_
      refine ab_iload_n hX dJ6_numberOfTrailingZeros_0f7a4_34 mm0 ?_
      refine ab_sipush (v := 256) hX dJ6_numberOfTrailingZeros_0f7a4_35 (by decide) ?_
      refine ab_icmple (tgt := 49) hX dJ6_numberOfTrailingZeros_0f7a4_38 (by decide) (fun h_10 => ?_) (fun h_10 => ?_)
      ·
        refine ab_iload_n hX dJ6_numberOfTrailingZeros_0f7a4_49 mm0 ?_
        refine ab_bipush (v := 16) hX dJ6_numberOfTrailingZeros_0f7a4_50 (by decide) ?_
        refine ab_icmple (tgt := 62) hX dJ6_numberOfTrailingZeros_0f7a4_52 (by decide) (fun h_11 => ?_) (fun h_11 => ?_)
        ·
          refine ab_iload_n hX dJ6_numberOfTrailingZeros_0f7a4_62 mm0 ?_
          refine ab_iconst (v := 4) hX dJ6_numberOfTrailingZeros_0f7a4_63 (by decide) ?_
          refine ab_icmple (tgt := 74) hX dJ6_numberOfTrailingZeros_0f7a4_64 (by decide) (fun h_12 => ?_) (fun h_12 => ?_)
          ·
            refine ab_iload_n hX dJ6_numberOfTrailingZeros_0f7a4_74 mm1 ?_
            refine ab_iload_n hX dJ6_numberOfTrailingZeros_0f7a4_75 mm0 ?_
            refine ab_iconst (v := 1) hX dJ6_numberOfTrailingZeros_0f7a4_76 (by decide) ?_
            refine ab_iushr hX dJ6_numberOfTrailingZeros_0f7a4_77 ?_
            refine ab_iadd hX dJ6_numberOfTrailingZeros_0f7a4_78 ?_
            exact ab_ireturn hX hF dJ6_numberOfTrailingZeros_0f7a4_79 rfl (by rfl) (congrArg some (congrArg Value.int (by first | (simp only [ntz, ush, h_1, h_2, h_10, h_11, h_12, ↓reduceIte]; done) | (simp only [ntz, ush, h_1, h_2, h_10, h_11, h_12, ↓reduceIte]; rfl)))) (by rfl)
          ·
            refine ab_iinc hX dJ6_numberOfTrailingZeros_0f7a4_67 mm1 rfl (by decide) rfl ?_
            refine ab_iload_n hX dJ6_numberOfTrailingZeros_0f7a4_70 mm1 ?_
            refine ab_iconst (v := 2) hX dJ6_numberOfTrailingZeros_0f7a4_71 (by decide) ?_
            refine ab_iushr hX dJ6_numberOfTrailingZeros_0f7a4_72 ?_
            refine ab_istore_n hX dJ6_numberOfTrailingZeros_0f7a4_73 rfl (by decide) rfl ?_
            refine ab_iload_n hX dJ6_numberOfTrailingZeros_0f7a4_74 mm1 ?_
            refine ab_iload_n hX dJ6_numberOfTrailingZeros_0f7a4_75 mm0 ?_
            refine ab_iconst (v := 1) hX dJ6_numberOfTrailingZeros_0f7a4_76 (by decide) ?_
            refine ab_iushr hX dJ6_numberOfTrailingZeros_0f7a4_77 ?_
            refine ab_iadd hX dJ6_numberOfTrailingZeros_0f7a4_78 ?_
            exact ab_ireturn hX hF dJ6_numberOfTrailingZeros_0f7a4_79 rfl (by rfl) (congrArg some (congrArg Value.int (by first | (simp only [ntz, ush, h_1, h_2, h_10, h_11, h_12, ↓reduceIte]; done) | (simp only [ntz, ush, h_1, h_2, h_10, h_11, h_12, ↓reduceIte]; rfl)))) (by rfl)
        ·
          refine ab_iinc hX dJ6_numberOfTrailingZeros_0f7a4_55 mm1 rfl (by decide) rfl ?_
          refine ab_iload_n hX dJ6_numberOfTrailingZeros_0f7a4_58 mm1 ?_
          refine ab_iconst (v := 4) hX dJ6_numberOfTrailingZeros_0f7a4_59 (by decide) ?_
          refine ab_iushr hX dJ6_numberOfTrailingZeros_0f7a4_60 ?_
          refine ab_istore_n hX dJ6_numberOfTrailingZeros_0f7a4_61 rfl (by decide) rfl ?_
          refine ab_iload_n hX dJ6_numberOfTrailingZeros_0f7a4_62 mm0 ?_
          refine ab_iconst (v := 4) hX dJ6_numberOfTrailingZeros_0f7a4_63 (by decide) ?_
          refine ab_icmple (tgt := 74) hX dJ6_numberOfTrailingZeros_0f7a4_64 (by decide) (fun h_13 => ?_) (fun h_13 => ?_)
          ·
            refine ab_iload_n hX dJ6_numberOfTrailingZeros_0f7a4_74 mm1 ?_
            refine ab_iload_n hX dJ6_numberOfTrailingZeros_0f7a4_75 mm0 ?_
            refine ab_iconst (v := 1) hX dJ6_numberOfTrailingZeros_0f7a4_76 (by decide) ?_
            refine ab_iushr hX dJ6_numberOfTrailingZeros_0f7a4_77 ?_
            refine ab_iadd hX dJ6_numberOfTrailingZeros_0f7a4_78 ?_
            exact ab_ireturn hX hF dJ6_numberOfTrailingZeros_0f7a4_79 rfl (by rfl) (congrArg some (congrArg Value.int (by first | (simp only [ntz, ush, h_1, h_2, h_10, h_11, h_13, ↓reduceIte]; done) | (simp only [ntz, ush, h_1, h_2, h_10, h_11, h_13, ↓reduceIte]; rfl)))) (by rfl)
          ·
            refine ab_iinc hX dJ6_numberOfTrailingZeros_0f7a4_67 mm1 rfl (by decide) rfl ?_
            refine ab_iload_n hX dJ6_numberOfTrailingZeros_0f7a4_70 mm1 ?_
            refine ab_iconst (v := 2) hX dJ6_numberOfTrailingZeros_0f7a4_71 (by decide) ?_
            refine ab_iushr hX dJ6_numberOfTrailingZeros_0f7a4_72 ?_
            refine ab_istore_n hX dJ6_numberOfTrailingZeros_0f7a4_73 rfl (by decide) rfl ?_
            refine ab_iload_n hX dJ6_numberOfTrailingZeros_0f7a4_74 mm1 ?_
            refine ab_iload_n hX dJ6_numberOfTrailingZeros_0f7a4_75 mm0 ?_
            refine ab_iconst (v := 1) hX dJ6_numberOfTrailingZeros_0f7a4_76 (by decide) ?_
            refine ab_iushr hX dJ6_numberOfTrailingZeros_0f7a4_77 ?_
            refine ab_iadd hX dJ6_numberOfTrailingZeros_0f7a4_78 ?_
            exact ab_ireturn hX hF dJ6_numberOfTrailingZeros_0f7a4_79 rfl (by rfl) (congrArg some (congrArg Value.int (by first | (simp only [ntz, ush, h_1, h_2, h_10, h_11, h_13, ↓reduceIte]; done) | (simp only [ntz, ush, h_1, h_2, h_10, h_11, h_13, ↓reduceIte]; rfl)))) (by rfl)
      ·
        refine ab_iinc hX dJ6_numberOfTrailingZeros_0f7a4_41 mm1 rfl (by decide) rfl ?_
        refine ab_iload_n hX dJ6_numberOfTrailingZeros_0f7a4_44 mm1 ?_
        refine ab_bipush (v := 8) hX dJ6_numberOfTrailingZeros_0f7a4_45 (by decide) ?_
        refine ab_iushr hX dJ6_numberOfTrailingZeros_0f7a4_47 ?_
        refine ab_istore_n hX dJ6_numberOfTrailingZeros_0f7a4_48 rfl (by decide) rfl ?_
        refine ab_iload_n hX dJ6_numberOfTrailingZeros_0f7a4_49 mm0 ?_
        refine ab_bipush (v := 16) hX dJ6_numberOfTrailingZeros_0f7a4_50 (by decide) ?_
        refine ab_icmple (tgt := 62) hX dJ6_numberOfTrailingZeros_0f7a4_52 (by decide) (fun h_14 => ?_) (fun h_14 => ?_)
        ·
          refine ab_iload_n hX dJ6_numberOfTrailingZeros_0f7a4_62 mm0 ?_
          refine ab_iconst (v := 4) hX dJ6_numberOfTrailingZeros_0f7a4_63 (by decide) ?_
          refine ab_icmple (tgt := 74) hX dJ6_numberOfTrailingZeros_0f7a4_64 (by decide) (fun h_15 => ?_) (fun h_15 => ?_)
          ·
            refine ab_iload_n hX dJ6_numberOfTrailingZeros_0f7a4_74 mm1 ?_
            refine ab_iload_n hX dJ6_numberOfTrailingZeros_0f7a4_75 mm0 ?_
            refine ab_iconst (v := 1) hX dJ6_numberOfTrailingZeros_0f7a4_76 (by decide) ?_
            refine ab_iushr hX dJ6_numberOfTrailingZeros_0f7a4_77 ?_
            refine ab_iadd hX dJ6_numberOfTrailingZeros_0f7a4_78 ?_
            exact ab_ireturn hX hF dJ6_numberOfTrailingZeros_0f7a4_79 rfl (by rfl) (congrArg some (congrArg Value.int (by first | (simp only [ntz, ush, h_1, h_2, h_10, h_14, h_15, ↓reduceIte]; done) | (simp only [ntz, ush, h_1, h_2, h_10, h_14, h_15, ↓reduceIte]; rfl)))) (by rfl)
          ·
            refine ab_iinc hX dJ6_numberOfTrailingZeros_0f7a4_67 mm1 rfl (by decide) rfl ?_
            refine ab_iload_n hX dJ6_numberOfTrailingZeros_0f7a4_70 mm1 ?_
            refine ab_iconst (v := 2) hX dJ6_numberOfTrailingZeros_0f7a4_71 (by decide) ?_
            refine ab_iushr hX dJ6_numberOfTrailingZeros_0f7a4_72 ?_
            refine ab_istore_n hX dJ6_numberOfTrailingZeros_0f7a4_73 rfl (by decide) rfl ?_
            refine ab_iload_n hX dJ6_numberOfTrailingZeros_0f7a4_74 mm1 ?_
            refine ab_iload_n hX dJ6_numberOfTrailingZeros_0f7a4_75 mm0 ?_
            refine ab_iconst (v := 1) hX dJ6_numberOfTrailingZeros_0f7a4_76 (by decide) ?_
            refine ab_iushr hX dJ6_numberOfTrailingZeros_0f7a4_77 ?_
            refine ab_iadd hX dJ6_numberOfTrailingZeros_0f7a4_78 ?_
            exact ab_ireturn hX hF dJ6_numberOfTrailingZeros_0f7a4_79 rfl (by rfl) (congrArg some (congrArg Value.int (by first | (simp only [ntz, ush, h_1, h_2, h_10, h_14, h_15, ↓reduceIte]; done) | (simp only [ntz, ush, h_1, h_2, h_10, h_14, h_15, ↓reduceIte]; rfl)))) (by rfl)
        ·
          refine ab_iinc hX dJ6_numberOfTrailingZeros_0f7a4_55 mm1 rfl (by decide) rfl ?_
          refine ab_iload_n hX dJ6_numberOfTrailingZeros_0f7a4_58 mm1 ?_
          refine ab_iconst (v := 4) hX dJ6_numberOfTrailingZeros_0f7a4_59 (by decide) ?_
          refine ab_iushr hX dJ6_numberOfTrailingZeros_0f7a4_60 ?_
          refine ab_istore_n hX dJ6_numberOfTrailingZeros_0f7a4_61 rfl (by decide) rfl ?_
          refine ab_iload_n hX dJ6_numberOfTrailingZeros_0f7a4_62 mm0 ?_
          refine ab_iconst (v := 4) hX dJ6_numberOfTrailingZeros_0f7a4_63 (by decide) ?_
          refine ab_icmple (tgt := 74) hX dJ6_numberOfTrailingZeros_0f7a4_64 (by decide) (fun h_16 => ?_) (fun h_16 => ?_)
          ·
            refine ab_iload_n hX dJ6_numberOfTrailingZeros_0f7a4_74 mm1 ?_
            refine ab_iload_n hX dJ6_numberOfTrailingZeros_0f7a4_75 mm0 ?_
            refine ab_iconst (v := 1) hX dJ6_numberOfTrailingZeros_0f7a4_76 (by decide) ?_
            refine ab_iushr hX dJ6_numberOfTrailingZeros_0f7a4_77 ?_
            refine ab_iadd hX dJ6_numberOfTrailingZeros_0f7a4_78 ?_
            exact ab_ireturn hX hF dJ6_numberOfTrailingZeros_0f7a4_79 rfl (by rfl) (congrArg some (congrArg Value.int (by first | (simp only [ntz, ush, h_1, h_2, h_10, h_14, h_16, ↓reduceIte]; done) | (simp only [ntz, ush, h_1, h_2, h_10, h_14, h_16, ↓reduceIte]; rfl)))) (by rfl)
          ·
            refine ab_iinc hX dJ6_numberOfTrailingZeros_0f7a4_67 mm1 rfl (by decide) rfl ?_
            refine ab_iload_n hX dJ6_numberOfTrailingZeros_0f7a4_70 mm1 ?_
            refine ab_iconst (v := 2) hX dJ6_numberOfTrailingZeros_0f7a4_71 (by decide) ?_
            refine ab_iushr hX dJ6_numberOfTrailingZeros_0f7a4_72 ?_
            refine ab_istore_n hX dJ6_numberOfTrailingZeros_0f7a4_73 rfl (by decide) rfl ?_
            refine ab_iload_n hX dJ6_numberOfTrailingZeros_0f7a4_74 mm1 ?_
            refine ab_iload_n hX dJ6_numberOfTrailingZeros_0f7a4_75 mm0 ?_
            refine ab_iconst (v := 1) hX dJ6_numberOfTrailingZeros_0f7a4_76 (by decide) ?_
            refine ab_iushr hX dJ6_numberOfTrailingZeros_0f7a4_77 ?_
            refine ab_iadd hX dJ6_numberOfTrailingZeros_0f7a4_78 ?_
            exact ab_ireturn hX hF dJ6_numberOfTrailingZeros_0f7a4_79 rfl (by rfl) (congrArg some (congrArg Value.int (by first | (simp only [ntz, ush, h_1, h_2, h_10, h_14, h_16, ↓reduceIte]; done) | (simp only [ntz, ush, h_1, h_2, h_10, h_14, h_16, ↓reduceIte]; rfl)))) (by rfl)
  ·
    refine ab_iload_n hX dJ6_numberOfTrailingZeros_0f7a4_12 mm0 ?_
    refine ab_bipush (v := 32) hX dJ6_numberOfTrailingZeros_0f7a4_13 (by decide) ?_
    refine ab_iand hX dJ6_numberOfTrailingZeros_0f7a4_15 ?_
    exact ab_ireturn hX hF dJ6_numberOfTrailingZeros_0f7a4_16 rfl (by rfl) (congrArg some (congrArg Value.int (by first | (simp only [ntz, ush, h_1, ↓reduceIte]; done) | (simp only [ntz, ush, h_1, ↓reduceIte]; rfl)))) (by rfl)

