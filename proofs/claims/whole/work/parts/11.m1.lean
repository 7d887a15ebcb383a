def iw (v lo hi : Int32) : Bool := !decide (v < lo) && !decide (hi < v)
def made (k f a b : Int32) : Int32 := 1000 * k + 100 * f + 10 * a + b
def hasB (w f : Int32) : Bool := decide ((w >>> (f &&& 31)) &&& 1 = 1)
def isTB (s w : Int32) : Bool :=
  if s / 1000 = 0 then hasB w (s / 10 - s / 10 / 10 * 10)
  else if s / 1000 = 1 then !hasB w (s / 10 - s / 10 / 10 * 10)
  else if s / 1000 = 2 then hasB w (s / 10 - s / 10 / 10 * 10) && hasB w (s - s / 10 * 10)
  else if s / 1000 = 3 then hasB w (s / 10 - s / 10 / 10 * 10) || hasB w (s - s / 10 * 10)
  else if s / 1000 = 4 then !hasB w (s / 10 - s / 10 / 10 * 10) || hasB w (s - s / 10 * 10)
  else if s / 1000 = 5 then decide (bi (hasB w (s / 10 - s / 10 / 10 * 10)) = bi (hasB w (s - s / 10 * 10)))
  else if s / 1000 = 6 then false
  else hasB w (s / 10 - s / 10 / 10 * 10) || (hasB w (s - s / 10 * 10) || hasB w ((s / 100 - s / 100 / 10 * 10) - (s / 100 - s / 100 / 10 * 10) / 6 * 6))
def sizeI (s : Int32) : Int32 :=
  if s / 1000 = 0 then 3 else if s / 1000 = 1 then 4 else if s / 1000 = 2 then 5 else if s / 1000 = 3 then 6 else if s / 1000 = 4 then 12 else if s / 1000 = 5 then 8
  else if s / 1000 = 6 then 4 + (s / 100 - s / 100 / 10 * 10) else 6 + (s / 100 - s / 100 / 10 * 10)
def aboutI (s : Int32) : Int32 :=
  let b0 : Int32 := 1 <<< ((s / 10 - s / 10 / 10 * 10) &&& 31)
  let b1 : Int32 := if s / 1000 ≤ 1 then b0 else if s / 1000 = 6 then b0 else b0 ||| 1 <<< ((s - s / 10 * 10) &&& 31)
  if s / 1000 = 7 then b1 ||| 1 <<< (((s / 100 - s / 100 / 10 * 10) - (s / 100 - s / 100 / 10 * 10) / 6 * 6) &&& 31) else b1
def worldsN (s : Int32) : Nat → Int64
  | 0 => 0
  | n + 1 => if isTB s (nI n) = true then worldsN s n ||| (1 : Int64) <<< ((nI n).toInt64 &&& 63) else worldsN s n
def ofI (s what : Int32) : Int32 :=
  if what = 0 then s / 1000 else if what = 1 then s / 100 - s / 100 / 10 * 10 else if what = 2 then s / 10 - s / 10 / 10 * 10 else if what = 3 then s - s / 10 * 10
  else if what = 4 then sizeI s else aboutI s
theorem cm_X12_within {G : ab_G} (hG : ab_GG G) {h : List ab_E} {v : Int32} {lo : Int32} {hi : Int32}  : ab_CM G mX12_within [.int v, .int lo, .int hi] h (some (.int (bi (iw v lo hi)))) h := by
  refine ab_meth (l0 := [(0, .int v), (1, .int lo), (2, .int hi)]) hG (by decide +kernel) rfl (Nat.le_of_ble_eq_true rfl) (Nat.le_refl _) (Nat.le_refl _) (fun X hX hF => ?_)
  refine ab_iload_n hX dX12_within_0 mm0 ?_
  refine ab_iload_n hX dX12_within_1 mm1 ?_
  refine ab_icmplt (tgt := 14) hX dX12_within_2 (by decide) (fun h_1 => ?_) (fun h_1 => ?_)
  ·
    refine ab_iconst (v := 0) hX dX12_within_14 (by decide) ?_
    exact ab_ireturn hX hF dX12_within_15 rfl (by first | rfl | exact bi_n _) (congrArg some (congrArg Value.int (by simp [bi_t, bi_f, iw, h_1]))) (by rfl)
  ·
    refine ab_iload_n hX dX12_within_5 mm0 ?_
    refine ab_iload_n hX dX12_within_6 mm2 ?_
    refine ab_icmpgt (tgt := 14) hX dX12_within_7 (by decide) (fun h_2 => ?_) (fun h_2 => ?_)
    ·
      refine ab_iconst (v := 0) hX dX12_within_14 (by decide) ?_
      exact ab_ireturn hX hF dX12_within_15 rfl (by first | rfl | exact bi_n _) (congrArg some (congrArg Value.int (by simp [bi_t, bi_f, iw, h_1, h_2]))) (by rfl)
    ·
      refine ab_iconst (v := 1) hX dX12_within_10 (by decide) ?_
      refine ab_goto (tgt := 15) hX dX12_within_11 (by decide) ?_
      exact ab_ireturn hX hF dX12_within_15 rfl (by first | rfl | exact bi_n _) (congrArg some (congrArg Value.int (by simp [bi_t, bi_f, iw, h_1, h_2]))) (by rfl)
theorem cm_X12_isFact {G : ab_G} (hG : ab_GG G) {h : List ab_E} {f : Int32}  : ab_CM G mX12_isFact [.int f] h (some (.int (bi (iw f 0 5)))) h := by
  refine ab_meth (l0 := [(0, .int f)]) hG (by decide +kernel) rfl (Nat.le_of_ble_eq_true rfl) (Nat.le_refl _) (Nat.le_refl _) (fun X hX hF => ?_)
  refine ab_iload_n hX dX12_isFact_0 mm0 ?_
  refine ab_iconst (v := 0) hX dX12_isFact_1 (by decide) ?_
  refine ab_iconst (v := 5) hX dX12_isFact_2 (by decide) ?_
  refine ab_callS3r hX dX12_isFact_3 ss_X12_isFact_43 (cm_X12_within hG) (Nat.le_of_ble_eq_true rfl) ?_
  exact ab_ireturn hX hF dX12_isFact_6 rfl (by first | rfl | exact bi_n _) (congrArg some (congrArg Value.int (by rfl))) (by rfl)
theorem cm_X12_isShelf {G : ab_G} (hG : ab_GG G) {h : List ab_E} {f : Int32}  : ab_CM G mX12_isShelf [.int f] h (some (.int (bi (iw f 0 7)))) h := by
  refine ab_meth (l0 := [(0, .int f)]) hG (by decide +kernel) rfl (Nat.le_of_ble_eq_true rfl) (Nat.le_refl _) (Nat.le_refl _) (fun X hX hF => ?_)
  refine ab_iload_n hX dX12_isShelf_0 mm0 ?_
  refine ab_iconst (v := 0) hX dX12_isShelf_1 (by decide) ?_
  refine ab_bipush (v := 7) hX dX12_isShelf_2 (by decide) ?_
  refine ab_callS3r hX dX12_isShelf_4 ss_X12_isShelf_43 (cm_X12_within hG) (Nat.le_of_ble_eq_true rfl) ?_
  exact ab_ireturn hX hF dX12_isShelf_7 rfl (by first | rfl | exact bi_n _) (congrArg some (congrArg Value.int (by rfl))) (by rfl)
theorem cm_X12_isWitness {G : ab_G} (hG : ab_GG G) {A : List ab_E} {s : MS} {B : List ab_E} (hA : A.length = 42) {w : Int32}  : ab_CM G mX12_isWitness [.ref 42, .int w] (mH A s B) (some (.int (bi (iw w 0 (s.1 3 - 1))))) (mH A s B) := by
  refine ab_meth (l0 := [(0, .ref 42), (1, .int w)]) hG (by decide +kernel) rfl (Nat.le_of_ble_eq_true rfl) (Nat.le_refl _) (Nat.le_refl _) (fun X hX hF => ?_)
  refine ab_iload_n hX dX12_isWitness_0 mm1 ?_
  refine ab_iconst (v := 0) hX dX12_isWitness_1 (by decide) ?_
  refine ab_aload_n hX dX12_isWitness_2 mm0 ?_
  refine ab_getfield hX dX12_isWitness_3 (fs_X12_47_13 rfl) (mg_o hA) rfl ?_
  refine ab_iconst (v := 1) hX dX12_isWitness_6 (by decide) ?_
  refine ab_isub hX dX12_isWitness_7 ?_
  refine ab_callS3r hX dX12_isWitness_8 ss_X12_isWitness_43 (cm_X12_within hG) (Nat.le_of_ble_eq_true rfl) ?_
  exact ab_ireturn hX hF dX12_isWitness_11 rfl (by first | rfl | exact bi_n _) (congrArg some (congrArg Value.int (by rfl))) (by rfl)
theorem cm_X12_isSaid {G : ab_G} (hG : ab_GG G) {A : List ab_E} {s : MS} {B : List ab_E} (hA : A.length = 42) {w : Int32}  : ab_CM G mX12_isSaid [.ref 42, .int w] (mH A s B) (some (.int (bi (iw w 0 (s.1 5 - 1))))) (mH A s B) := by
  refine ab_meth (l0 := [(0, .ref 42), (1, .int w)]) hG (by decide +kernel) rfl (Nat.le_of_ble_eq_true rfl) (Nat.le_refl _) (Nat.le_refl _) (fun X hX hF => ?_)
  refine ab_iload_n hX dX12_isSaid_0 mm1 ?_
  refine ab_iconst (v := 0) hX dX12_isSaid_1 (by decide) ?_
  refine ab_aload_n hX dX12_isSaid_2 mm0 ?_
  refine ab_getfield hX dX12_isSaid_3 (fs_X12_51_13 rfl) (mg_o hA) rfl ?_
  refine ab_iconst (v := 1) hX dX12_isSaid_6 (by decide) ?_
  refine ab_isub hX dX12_isSaid_7 ?_
  refine ab_callS3r hX dX12_isSaid_8 ss_X12_isSaid_43 (cm_X12_within hG) (Nat.le_of_ble_eq_true rfl) ?_
  exact ab_ireturn hX hF dX12_isSaid_11 rfl (by first | rfl | exact bi_n _) (congrArg some (congrArg Value.int (by rfl))) (by rfl)
theorem cm_X12_made {G : ab_G} (hG : ab_GG G) {h : List ab_E} {k : Int32} {f : Int32} {a : Int32} {b : Int32}  : ab_CM G mX12_made [.int k, .int f, .int a, .int b] h (some (.int (made k f a b))) h := by
  refine ab_meth (l0 := [(0, .int k), (1, .int f), (2, .int a), (3, .int b)]) hG (by decide +kernel) rfl (Nat.le_of_ble_eq_true rfl) (Nat.le_refl _) (Nat.le_refl _) (fun X hX hF => ?_)
  refine ab_sipush (v := 1000) hX dX12_made_0 (by decide) ?_
  refine ab_iload_n hX dX12_made_3 mm0 ?_
  refine ab_imul hX dX12_made_4 ?_
  refine ab_bipush (v := 100) hX dX12_made_5 (by decide) ?_
  refine ab_iload_n hX dX12_made_7 mm1 ?_
  refine ab_imul hX dX12_made_8 ?_
  refine ab_iadd hX dX12_made_9 ?_
  refine ab_bipush (v := 10) hX dX12_made_10 (by decide) ?_
  refine ab_iload_n hX dX12_made_12 mm2 ?_
  refine ab_imul hX dX12_made_13 ?_
  refine ab_iadd hX dX12_made_14 ?_
  refine ab_iload_n hX dX12_made_15 mm3 ?_
  refine ab_iadd hX dX12_made_16 ?_
  exact ab_ireturn hX hF dX12_made_17 rfl (by rfl) (congrArg some (congrArg Value.int (by rfl))) (by rfl)
theorem cm_X12_has {G : ab_G} (hG : ab_GG G) {h : List ab_E} {w : Int32} {f : Int32}  : ab_CM G mX12_has [.int w, .int f] h (some (.int (bi (hasB w f)))) h := by
  refine ab_meth (l0 := [(0, .int w), (1, .int f)]) hG (by decide +kernel) rfl (Nat.le_of_ble_eq_true rfl) (Nat.le_refl _) (Nat.le_refl _) (fun X hX hF => ?_)
  refine ab_iload_n hX dX12_has_0 mm0 ?_
  refine ab_iload_n hX dX12_has_1 mm1 ?_
  refine ab_ishr hX dX12_has_2 ?_
  refine ab_iconst (v := 1) hX dX12_has_3 (by decide) ?_
  refine ab_iand hX dX12_has_4 ?_
  refine ab_iconst (v := 1) hX dX12_has_5 (by decide) ?_
  refine ab_icmpne (tgt := 13) hX dX12_has_6 (by decide) (fun h_1 => ?_) (fun h_1 => ?_)
  ·
    refine ab_iconst (v := 0) hX dX12_has_13 (by decide) ?_
    exact ab_ireturn hX hF dX12_has_14 rfl (by first | rfl | exact bi_n _) (congrArg some (congrArg Value.int (by simp [bi_t, bi_f, hasB, h_1]))) (by rfl)
  ·
    refine ab_iconst (v := 1) hX dX12_has_9 (by decide) ?_
    refine ab_goto (tgt := 14) hX dX12_has_10 (by decide) ?_
    exact ab_ireturn hX hF dX12_has_14 rfl (by first | rfl | exact bi_n _) (congrArg some (congrArg Value.int (by simp [bi_t, bi_f, hasB, h_1]))) (by rfl)
theorem cm_X12_isTrueIn {G : ab_G} (hG : ab_GG G) {h : List ab_E} {s : Int32} {w : Int32}  : ab_CM G mX12_isTrueIn [.int s, .int w] h (some (.int (bi (isTB s w)))) h := by
  refine ab_meth (l0 := [(0, .int s), (1, .int w)]) hG (by decide +kernel) rfl (Nat.le_of_ble_eq_true rfl) (Nat.le_refl _) (Nat.le_refl _) (fun X hX hF => ?_)
  refine ab_iload_n hX dX12_isTrueIn_0 mm1 ?_
  refine ab_iload_n hX dX12_isTrueIn_1 mm0 ?_
  refine ab_bipush (v := 10) hX dX12_isTrueIn_2 (by decide) ?_
  refine ab_idiv hX dX12_isTrueIn_4 (by decide) ?_
  refine ab_bipush (v := 10) hX dX12_isTrueIn_5 (by decide) ?_
  refine ab_irem hX dX12_isTrueIn_7 (by decide) ?_
  refine ab_callS2r hX dX12_isTrueIn_8 ss_X12_isTrueIn_54 (cm_X12_has hG) (Nat.le_of_ble_eq_true rfl) ?_
  refine ab_istore_n hX dX12_isTrueIn_11 rfl (by decide) rfl ?_
  refine ab_iload_n hX dX12_isTrueIn_12 mm2 ?_
  refine ab_iload_n hX dX12_isTrueIn_13 mm1 ?_
  refine ab_bipush (v := 10) hX dX12_isTrueIn_14 (by decide) ?_
  refine ab_irem hX dX12_isTrueIn_16 (by decide) ?_
  refine ab_callS2r hX dX12_isTrueIn_17 ss_X12_isTrueIn_54 (cm_X12_has hG) (Nat.le_of_ble_eq_true rfl) ?_
  refine ab_istore_n hX dX12_isTrueIn_20 rfl (by decide) rfl ?_
  refine ab_iload_n hX dX12_isTrueIn_21 mm2 ?_
  refine ab_sipush (v := 1000) hX dX12_isTrueIn_22 (by decide) ?_
  refine ab_idiv hX dX12_isTrueIn_25 (by decide) ?_
  rcases ab_sw0_6 (s / 1000) with h_1 | h_1 | h_1 | h_1 | h_1 | h_1 | h_1 | h_1
  ·
    refine ab_tsIn (tgt := 68) hX dX12_isTrueIn_26 (by rw [h_1]; decide) (by rw [h_1]; decide) (off := 42) (by rw [h_1]; rfl) (by decide) ?_
    refine ab_iload_n hX dX12_isTrueIn_68 mm1 ?_
    exact ab_ireturn hX hF dX12_isTrueIn_69 rfl (by first | rfl | exact bi_n _) (congrArg some (congrArg Value.int (by simp [bi_t, bi_f, isTB, h_1]))) (by rfl)
  ·
    refine ab_tsIn (tgt := 70) hX dX12_isTrueIn_26 (by rw [h_1]; decide) (by rw [h_1]; decide) (off := 44) (by rw [h_1]; rfl) (by decide) ?_
    refine ab_iload_n hX dX12_isTrueIn_70 mm1 ?_
    refine ab_ifneB (tgt := 78) hX dX12_isTrueIn_71 (by decide) (fun h_2 => ?_) (fun h_2 => ?_)
    ·
      refine ab_iconst (v := 0) hX dX12_isTrueIn_78 (by decide) ?_
      exact ab_ireturn hX hF dX12_isTrueIn_79 rfl (by first | rfl | exact bi_n _) (congrArg some (congrArg Value.int (by simp [bi_t, bi_f, isTB, h_1, h_2]))) (by rfl)
    ·
      refine ab_iconst (v := 1) hX dX12_isTrueIn_74 (by decide) ?_
      refine ab_goto (tgt := 79) hX dX12_isTrueIn_75 (by decide) ?_
      exact ab_ireturn hX hF dX12_isTrueIn_79 rfl (by first | rfl | exact bi_n _) (congrArg some (congrArg Value.int (by simp [bi_t, bi_f, isTB, h_1, h_2]))) (by rfl)
  ·
    refine ab_tsIn (tgt := 80) hX dX12_isTrueIn_26 (by rw [h_1]; decide) (by rw [h_1]; decide) (off := 54) (by rw [h_1]; rfl) (by decide) ?_
    refine ab_iload_n hX dX12_isTrueIn_80 mm1 ?_
    refine ab_ifeqB (tgt := 92) hX dX12_isTrueIn_81 (by decide) (fun h_3 => ?_) (fun h_3 => ?_)
    ·
      refine ab_iconst (v := 0) hX dX12_isTrueIn_92 (by decide) ?_
      exact ab_ireturn hX hF dX12_isTrueIn_93 rfl (by first | rfl | exact bi_n _) (congrArg some (congrArg Value.int (by simp [bi_t, bi_f, isTB, h_1, h_3]))) (by rfl)
    ·
      refine ab_iload_n hX dX12_isTrueIn_84 mm0 ?_
      refine ab_ifeqB (tgt := 92) hX dX12_isTrueIn_85 (by decide) (fun h_4 => ?_) (fun h_4 => ?_)
      ·
        refine ab_iconst (v := 0) hX dX12_isTrueIn_92 (by decide) ?_
        exact ab_ireturn hX hF dX12_isTrueIn_93 rfl (by first | rfl | exact bi_n _) (congrArg some (congrArg Value.int (by simp [bi_t, bi_f, isTB, h_1, h_3, h_4]))) (by rfl)
      ·
        refine ab_iconst (v := 1) hX dX12_isTrueIn_88 (by decide) ?_
        refine ab_goto (tgt := 93) hX dX12_isTrueIn_89 (by decide) ?_
        exact ab_ireturn hX hF dX12_isTrueIn_93 rfl (by first | rfl | exact bi_n _) (congrArg some (congrArg Value.int (by simp [bi_t, bi_f, isTB, h_1, h_3, h_4]))) (by rfl)
  ·
    refine ab_tsIn (tgt := 94) hX dX12_isTrueIn_26 (by rw [h_1]; decide) (by rw [h_1]; decide) (off := 68) (by rw [h_1]; rfl) (by decide) ?_
    refine ab_iload_n hX dX12_isTrueIn_94 mm1 ?_
    refine ab_ifneB (tgt := 102) hX dX12_isTrueIn_95 (by decide) (fun h_5 => ?_) (fun h_5 => ?_)
    ·
      refine ab_iconst (v := 1) hX dX12_isTrueIn_102 (by decide) ?_
      refine ab_goto (tgt := 107) hX dX12_isTrueIn_103 (by decide) ?_
      exact ab_ireturn hX hF dX12_isTrueIn_107 rfl (by first | rfl | exact bi_n _) (congrArg some (congrArg Value.int (by simp [bi_t, bi_f, isTB, h_1, h_5]))) (by rfl)
    ·
      refine ab_iload_n hX dX12_isTrueIn_98 mm0 ?_
      refine ab_ifeqB (tgt := 106) hX dX12_isTrueIn_99 (by decide) (fun h_6 => ?_) (fun h_6 => ?_)
      ·
        refine ab_iconst (v := 0) hX dX12_isTrueIn_106 (by decide) ?_
        exact ab_ireturn hX hF dX12_isTrueIn_107 rfl (by first | rfl | exact bi_n _) (congrArg some (congrArg Value.int (by simp [bi_t, bi_f, isTB, h_1, h_5, h_6]))) (by rfl)
      ·
        refine ab_iconst (v := 1) hX dX12_isTrueIn_102 (by decide) ?_
        refine ab_goto (tgt := 107) hX dX12_isTrueIn_103 (by decide) ?_
        exact ab_ireturn hX hF dX12_isTrueIn_107 rfl (by first | rfl | exact bi_n _) (congrArg some (congrArg Value.int (by simp [bi_t, bi_f, isTB, h_1, h_5, h_6]))) (by rfl)
  ·
    refine ab_tsIn (tgt := 108) hX dX12_isTrueIn_26 (by rw [h_1]; decide) (by rw [h_1]; decide) (off := 82) (by rw [h_1]; rfl) (by decide) ?_
    refine ab_iload_n hX dX12_isTrueIn_108 mm1 ?_
    refine ab_ifeqB (tgt := 116) hX dX12_isTrueIn_109 (by decide) (fun h_7 => ?_) (fun h_7 => ?_)
    ·
      refine ab_iconst (v := 1) hX dX12_isTrueIn_116 (by decide) ?_
      refine ab_goto (tgt := 121) hX dX12_isTrueIn_117 (by decide) ?_
      exact ab_ireturn hX hF dX12_isTrueIn_121 rfl (by first | rfl | exact bi_n _) (congrArg some (congrArg Value.int (by simp [bi_t, bi_f, isTB, h_1, h_7]))) (by rfl)
    ·
      refine ab_iload_n hX dX12_isTrueIn_112 mm0 ?_
      refine ab_ifeqB (tgt := 120) hX dX12_isTrueIn_113 (by decide) (fun h_8 => ?_) (fun h_8 => ?_)
      ·
        refine ab_iconst (v := 0) hX dX12_isTrueIn_120 (by decide) ?_
        exact ab_ireturn hX hF dX12_isTrueIn_121 rfl (by first | rfl | exact bi_n _) (congrArg some (congrArg Value.int (by simp [bi_t, bi_f, isTB, h_1, h_7, h_8]))) (by rfl)
      ·
        refine ab_iconst (v := 1) hX dX12_isTrueIn_116 (by decide) ?_
        refine ab_goto (tgt := 121) hX dX12_isTrueIn_117 (by decide) ?_
        exact ab_ireturn hX hF dX12_isTrueIn_121 rfl (by first | rfl | exact bi_n _) (congrArg some (congrArg Value.int (by simp [bi_t, bi_f, isTB, h_1, h_7, h_8]))) (by rfl)
  ·
    refine ab_tsIn (tgt := 122) hX dX12_isTrueIn_26 (by rw [h_1]; decide) (by rw [h_1]; decide) (off := 96) (by rw [h_1]; rfl) (by decide) ?_
    refine ab_iload_n hX dX12_isTrueIn_122 mm1 ?_
    refine ab_iload_n hX dX12_isTrueIn_123 mm0 ?_
    refine ab_icmpne (tgt := 131) hX dX12_isTrueIn_124 (by decide) (fun h_9 => ?_) (fun h_9 => ?_)
    ·
      refine ab_iconst (v := 0) hX dX12_isTrueIn_131 (by decide) ?_
      exact ab_ireturn hX hF dX12_isTrueIn_132 rfl (by first | rfl | exact bi_n _) (congrArg some (congrArg Value.int (by simp [bi_t, bi_f, isTB, h_1, h_9]))) (by rfl)
    ·
      refine ab_iconst (v := 1) hX dX12_isTrueIn_127 (by decide) ?_
      refine ab_goto (tgt := 132) hX dX12_isTrueIn_128 (by decide) ?_
      exact ab_ireturn hX hF dX12_isTrueIn_132 rfl (by first | rfl | exact bi_n _) (congrArg some (congrArg Value.int (by simp [bi_t, bi_f, isTB, h_1, h_9]))) (by rfl)
  ·
    refine ab_tsIn (tgt := 133) hX dX12_isTrueIn_26 (by rw [h_1]; decide) (by rw [h_1]; decide) (off := 107) (by rw [h_1]; rfl) (by decide) ?_
    refine ab_iconst (v := 0) hX dX12_isTrueIn_133 (by decide) ?_
    exact ab_ireturn hX hF dX12_isTrueIn_134 rfl (by first | rfl | exact bi_n _) (congrArg some (congrArg Value.int (by simp [bi_t, bi_f, isTB, h_1]))) (by rfl)
  ·
    refine ab_tsOut (tgt := 135) hX dX12_isTrueIn_26 h_1.1 (by decide) ?_
    refine ab_iload_n hX dX12_isTrueIn_135 mm1 ?_
    refine ab_ifneB (tgt := 160) hX dX12_isTrueIn_136 (by decide) (fun h_10 => ?_) (fun h_10 => ?_)
    ·
      refine ab_iconst (v := 1) hX dX12_isTrueIn_160 (by decide) ?_
      refine ab_goto (tgt := 165) hX dX12_isTrueIn_161 (by decide) ?_
      exact ab_ireturn hX hF dX12_isTrueIn_165 rfl (by first | rfl | exact bi_n _) (congrArg some (congrArg Value.int (by simp [bi_t, bi_f, isTB, h_1, h_10]))) (by rfl)
    ·
      refine ab_iload_n hX dX12_isTrueIn_139 mm0 ?_
      refine ab_ifneB (tgt := 160) hX dX12_isTrueIn_140 (by decide) (fun h_11 => ?_) (fun h_11 => ?_)
      ·
        refine ab_iconst (v := 1) hX dX12_isTrueIn_160 (by decide) ?_
        refine ab_goto (tgt := 165) hX dX12_isTrueIn_161 (by decide) ?_
        exact ab_ireturn hX hF dX12_isTrueIn_165 rfl (by first | rfl | exact bi_n _) (congrArg some (congrArg Value.int (by simp [bi_t, bi_f, isTB, h_1, h_10, h_11]))) (by rfl)
      ·
        refine ab_iload_n hX dX12_isTrueIn_143 mm3 ?_
        refine ab_iload_n hX dX12_isTrueIn_144 mm2 ?_
        refine ab_bipush (v := 100) hX dX12_isTrueIn_145 (by decide) ?_
        refine ab_idiv hX dX12_isTrueIn_147 (by decide) ?_
        refine ab_bipush (v := 10) hX dX12_isTrueIn_148 (by decide) ?_
        refine ab_irem hX dX12_isTrueIn_150 (by decide) ?_
        refine ab_bipush (v := 6) hX dX12_isTrueIn_151 (by decide) ?_
        refine ab_irem hX dX12_isTrueIn_153 (by decide) ?_
        refine ab_callS2r hX dX12_isTrueIn_154 ss_X12_isTrueIn_54 (cm_X12_has hG) (Nat.le_of_ble_eq_true rfl) ?_
        refine ab_ifeqB (tgt := 164) hX dX12_isTrueIn_157 (by decide) (fun h_12 => ?_) (fun h_12 => ?_)
        ·
          refine ab_iconst (v := 0) hX dX12_isTrueIn_164 (by decide) ?_
          exact ab_ireturn hX hF dX12_isTrueIn_165 rfl (by first | rfl | exact bi_n _) (congrArg some (congrArg Value.int (by simp [bi_t, bi_f, isTB, h_1, h_10, h_11, h_12]))) (by rfl)
        ·
          refine ab_iconst (v := 1) hX dX12_isTrueIn_160 (by decide) ?_
          refine ab_goto (tgt := 165) hX dX12_isTrueIn_161 (by decide) ?_
          exact ab_ireturn hX hF dX12_isTrueIn_165 rfl (by first | rfl | exact bi_n _) (congrArg some (congrArg Value.int (by simp [bi_t, bi_f, isTB, h_1, h_10, h_11, h_12]))) (by rfl)
theorem cm_X12_sizeOf {G : ab_G} (hG : ab_GG G) {h : List ab_E} {s : Int32}  : ab_CM G mX12_sizeOf [.int s] h (some (.int (sizeI s))) h := by
  refine ab_meth (l0 := [(0, .int s)]) hG (by decide +kernel) rfl (Nat.le_of_ble_eq_true rfl) (Nat.le_refl _) (Nat.le_refl _) (fun X hX hF => ?_)
  refine ab_iload_n hX dX12_sizeOf_0 mm0 ?_
  refine ab_bipush (v := 100) hX dX12_sizeOf_1 (by decide) ?_
  refine ab_idiv hX dX12_sizeOf_3 (by decide) ?_
  refine ab_bipush (v := 10) hX dX12_sizeOf_4 (by decide) ?_
  refine ab_irem hX dX12_sizeOf_6 (by decide) ?_
  refine ab_istore_n hX dX12_sizeOf_7 rfl (by decide) rfl ?_
  refine ab_iload_n hX dX12_sizeOf_8 mm1 ?_
  refine ab_sipush (v := 1000) hX dX12_sizeOf_9 (by decide) ?_
  refine ab_idiv hX dX12_sizeOf_12 (by decide) ?_
  rcases ab_sw0_6 (s / 1000) with h_1 | h_1 | h_1 | h_1 | h_1 | h_1 | h_1 | h_1
  ·
    refine ab_tsIn (tgt := 56) hX dX12_sizeOf_13 (by rw [h_1]; decide) (by rw [h_1]; decide) (off := 43) (by rw [h_1]; rfl) (by decide) ?_
    refine ab_iconst (v := 3) hX dX12_sizeOf_56 (by decide) ?_
    exact ab_ireturn hX hF dX12_sizeOf_57 rfl (by rfl) (congrArg some (congrArg Value.int (by simp [sizeI, h_1]))) (by rfl)
  ·
    refine ab_tsIn (tgt := 58) hX dX12_sizeOf_13 (by rw [h_1]; decide) (by rw [h_1]; decide) (off := 45) (by rw [h_1]; rfl) (by decide) ?_
    refine ab_iconst (v := 4) hX dX12_sizeOf_58 (by decide) ?_
    exact ab_ireturn hX hF dX12_sizeOf_59 rfl (by rfl) (congrArg some (congrArg Value.int (by simp [sizeI, h_1]))) (by rfl)
  ·
    refine ab_tsIn (tgt := 60) hX dX12_sizeOf_13 (by rw [h_1]; decide) (by rw [h_1]; decide) (off := 47) (by rw [h_1]; rfl) (by decide) ?_
    refine ab_iconst (v := 5) hX dX12_sizeOf_60 (by decide) ?_
    exact ab_ireturn hX hF dX12_sizeOf_61 rfl (by rfl) (congrArg some (congrArg Value.int (by simp [sizeI, h_1]))) (by rfl)
  ·
    refine ab_tsIn (tgt := 62) hX dX12_sizeOf_13 (by rw [h_1]; decide) (by rw [h_1]; decide) (off := 49) (by rw [h_1]; rfl) (by decide) ?_
    refine ab_bipush (v := 6) hX dX12_sizeOf_62 (by decide) ?_
    exact ab_ireturn hX hF dX12_sizeOf_64 rfl (by rfl) (congrArg some (congrArg Value.int (by simp [sizeI, h_1]))) (by rfl)
  ·
    refine ab_tsIn (tgt := 65) hX dX12_sizeOf_13 (by rw [h_1]; decide) (by rw [h_1]; decide) (off := 52) (by rw [h_1]; rfl) (by decide) ?_
    refine ab_bipush (v := 12) hX dX12_sizeOf_65 (by decide) ?_
    exact ab_ireturn hX hF dX12_sizeOf_67 rfl (by rfl) (congrArg some (congrArg Value.int (by simp [sizeI, h_1]))) (by rfl)
  ·
    refine ab_tsIn (tgt := 68) hX dX12_sizeOf_13 (by rw [h_1]; decide) (by rw [h_1]; decide) (off := 55) (by rw [h_1]; rfl) (by decide) ?_
    refine ab_bipush (v := 8) hX dX12_sizeOf_68 (by decide) ?_
    exact ab_ireturn hX hF dX12_sizeOf_70 rfl (by rfl) (congrArg some (congrArg Value.int (by simp [sizeI, h_1]))) (by rfl)
  ·
    refine ab_tsIn (tgt := 71) hX dX12_sizeOf_13 (by rw [h_1]; decide) (by rw [h_1]; decide) (off := 58) (by rw [h_1]; rfl) (by decide) ?_
    refine ab_iconst (v := 4) hX dX12_sizeOf_71 (by decide) ?_
    refine ab_iload_n hX dX12_sizeOf_72 mm0 ?_
    refine ab_iadd hX dX12_sizeOf_73 ?_
    exact ab_ireturn hX hF dX12_sizeOf_74 rfl (by rfl) (congrArg some (congrArg Value.int (by simp [sizeI, h_1]))) (by rfl)
  ·
    refine ab_tsOut (tgt := 75) hX dX12_sizeOf_13 h_1.1 (by decide) ?_
    refine ab_bipush (v := 6) hX dX12_sizeOf_75 (by decide) ?_
    refine ab_iload_n hX dX12_sizeOf_77 mm0 ?_
    refine ab_iadd hX dX12_sizeOf_78 ?_
    exact ab_ireturn hX hF dX12_sizeOf_79 rfl (by rfl) (congrArg some (congrArg Value.int (by simp [sizeI, h_1]))) (by rfl)
theorem cm_X12_aboutOf {G : ab_G} (hG : ab_GG G) {h : List ab_E} {s : Int32}  : ab_CM G mX12_aboutOf [.int s] h (some (.int (aboutI s))) h := by
  refine ab_meth (l0 := [(0, .int s)]) hG (by decide +kernel) rfl (Nat.le_of_ble_eq_true rfl) (Nat.le_refl _) (Nat.le_refl _) (fun X hX hF => ?_)
  refine ab_iload_n hX dX12_aboutOf_0 mm0 ?_
  refine ab_sipush (v := 1000) hX dX12_aboutOf_1 (by decide) ?_
  refine ab_idiv hX dX12_aboutOf_4 (by decide) ?_
  refine ab_istore_n hX dX12_aboutOf_5 rfl (by decide) rfl ?_
  refine ab_iconst (v := 1) hX dX12_aboutOf_6 (by decide) ?_
  refine ab_iload_n hX dX12_aboutOf_7 mm1 ?_
  refine ab_bipush (v := 10) hX dX12_aboutOf_8 (by decide) ?_
  refine ab_idiv hX dX12_aboutOf_10 (by decide) ?_
  refine ab_bipush (v := 10) hX dX12_aboutOf_11 (by decide) ?_
  refine ab_irem hX dX12_aboutOf_13 (by decide) ?_
  refine ab_ishl hX dX12_aboutOf_14 ?_
  refine ab_istore_n hX dX12_aboutOf_15 rfl (by decide) rfl ?_
  refine ab_iload_n hX dX12_aboutOf_16 mm1 ?_
  refine ab_iconst (v := 1) hX dX12_aboutOf_17 (by decide) ?_
  refine ab_icmple (tgt := 36) hX dX12_aboutOf_18 (by decide) (fun h_1 => ?_) (fun h_1 => ?_)
  ·
    refine ab_iload_n hX dX12_aboutOf_36 mm1 ?_
    refine ab_bipush (v := 7) hX dX12_aboutOf_37 (by decide) ?_
    refine ab_icmpne (tgt := 57) hX dX12_aboutOf_39 (by decide) (fun h_2 => ?_) (fun h_2 => ?_)
    ·
      refine ab_iload_n hX dX12_aboutOf_57 mm0 ?_
      exact ab_ireturn hX hF dX12_aboutOf_58 rfl (by rfl) (congrArg some (congrArg Value.int (by first | (simp [aboutI, h_1, h_2]; done) | (simp_all; done)))) (by rfl)
    ·
      refine ab_iload_n hX dX12_aboutOf_42 mm0 ?_
      refine ab_iconst (v := 1) hX dX12_aboutOf_43 (by decide) ?_
      refine ab_iload_n hX dX12_aboutOf_44 mm2 ?_
      refine ab_bipush (v := 100) hX dX12_aboutOf_45 (by decide) ?_
      refine ab_idiv hX dX12_aboutOf_47 (by decide) ?_
      refine ab_bipush (v := 10) hX dX12_aboutOf_48 (by decide) ?_
      refine ab_irem hX dX12_aboutOf_50 (by decide) ?_
      refine ab_bipush (v := 6) hX dX12_aboutOf_51 (by decide) ?_
      refine ab_irem hX dX12_aboutOf_53 (by decide) ?_
      refine ab_ishl hX dX12_aboutOf_54 ?_
      refine ab_ior hX dX12_aboutOf_55 ?_
      refine ab_istore_n hX dX12_aboutOf_56 rfl (by decide) rfl ?_
      refine ab_iload_n hX dX12_aboutOf_57 mm0 ?_
      exact ab_ireturn hX hF dX12_aboutOf_58 rfl (by rfl) (congrArg some (congrArg Value.int (by first | (simp [aboutI, h_1, h_2]; done) | (simp_all; done)))) (by rfl)
  ·
    refine ab_iload_n hX dX12_aboutOf_21 mm1 ?_
    refine ab_bipush (v := 6) hX dX12_aboutOf_22 (by decide) ?_
    refine ab_icmpeq (tgt := 36) hX dX12_aboutOf_24 (by decide) (fun h_3 => ?_) (fun h_3 => ?_)
    ·
      refine ab_iload_n hX dX12_aboutOf_36 mm1 ?_
      refine ab_bipush (v := 7) hX dX12_aboutOf_37 (by decide) ?_
      refine ab_icmpne (tgt := 57) hX dX12_aboutOf_39 (by decide) (fun h_4 => ?_) (fun h_4 => ?_)
      ·
        refine ab_iload_n hX dX12_aboutOf_57 mm0 ?_
        exact ab_ireturn hX hF dX12_aboutOf_58 rfl (by rfl) (congrArg some (congrArg Value.int (by first | (simp [aboutI, h_1, h_3, h_4]; done) | (simp_all; done)))) (by rfl)
      ·
        refine ab_iload_n hX dX12_aboutOf_42 mm0 ?_
        refine ab_iconst (v := 1) hX dX12_aboutOf_43 (by decide) ?_
        refine ab_iload_n hX dX12_aboutOf_44 mm2 ?_
        refine ab_bipush (v := 100) hX dX12_aboutOf_45 (by decide) ?_
        refine ab_idiv hX dX12_aboutOf_47 (by decide) ?_
        refine ab_bipush (v := 10) hX dX12_aboutOf_48 (by decide) ?_
        refine ab_irem hX dX12_aboutOf_50 (by decide) ?_
        refine ab_bipush (v := 6) hX dX12_aboutOf_51 (by decide) ?_
        refine ab_irem hX dX12_aboutOf_53 (by decide) ?_
        refine ab_ishl hX dX12_aboutOf_54 ?_
        refine ab_ior hX dX12_aboutOf_55 ?_
        refine ab_istore_n hX dX12_aboutOf_56 rfl (by decide) rfl ?_
        refine ab_iload_n hX dX12_aboutOf_57 mm0 ?_
        exact ab_ireturn hX hF dX12_aboutOf_58 rfl (by rfl) (congrArg some (congrArg Value.int (by first | (simp [aboutI, h_1, h_3, h_4]; done) | (simp_all; done)))) (by rfl)
    ·
      refine ab_iload_n hX dX12_aboutOf_27 mm0 ?_
      refine ab_iconst (v := 1) hX dX12_aboutOf_28 (by decide) ?_
      refine ab_iload_n hX dX12_aboutOf_29 mm2 ?_
      refine ab_bipush (v := 10) hX dX12_aboutOf_30 (by decide) ?_
      refine ab_irem hX dX12_aboutOf_32 (by decide) ?_
      refine ab_ishl hX dX12_aboutOf_33 ?_
      refine ab_ior hX dX12_aboutOf_34 ?_
      refine ab_istore_n hX dX12_aboutOf_35 rfl (by decide) rfl ?_
      refine ab_iload_n hX dX12_aboutOf_36 mm1 ?_
      refine ab_bipush (v := 7) hX dX12_aboutOf_37 (by decide) ?_
      refine ab_icmpne (tgt := 57) hX dX12_aboutOf_39 (by decide) (fun h_5 => ?_) (fun h_5 => ?_)
      ·
        refine ab_iload_n hX dX12_aboutOf_57 mm0 ?_
        exact ab_ireturn hX hF dX12_aboutOf_58 rfl (by rfl) (congrArg some (congrArg Value.int (by first | (simp [aboutI, h_1, h_3, h_5]; done) | (simp_all; done)))) (by rfl)
      ·
        refine ab_iload_n hX dX12_aboutOf_42 mm0 ?_
        refine ab_iconst (v := 1) hX dX12_aboutOf_43 (by decide) ?_
        refine ab_iload_n hX dX12_aboutOf_44 mm2 ?_
        refine ab_bipush (v := 100) hX dX12_aboutOf_45 (by decide) ?_
        refine ab_idiv hX dX12_aboutOf_47 (by decide) ?_
        refine ab_bipush (v := 10) hX dX12_aboutOf_48 (by decide) ?_
        refine ab_irem hX dX12_aboutOf_50 (by decide) ?_
        refine ab_bipush (v := 6) hX dX12_aboutOf_51 (by decide) ?_
        refine ab_irem hX dX12_aboutOf_53 (by decide) ?_
        refine ab_ishl hX dX12_aboutOf_54 ?_
        refine ab_ior hX dX12_aboutOf_55 ?_
        refine ab_istore_n hX dX12_aboutOf_56 rfl (by decide) rfl ?_
        refine ab_iload_n hX dX12_aboutOf_57 mm0 ?_
        exact ab_ireturn hX hF dX12_aboutOf_58 rfl (by rfl) (congrArg some (congrArg Value.int (by first | (simp [aboutI, h_1, h_3, h_5]; done) | (simp_all; done)))) (by rfl)
theorem cm_X12_worldsOf {G : ab_G} (hG : ab_GG G) {h : List ab_E} {s : Int32}  : ab_CM G mX12_worldsOf [.int s] h (some (.long (worldsN s 64))) h := by
  refine ab_meth (l0 := [(0, .int s)]) hG (by decide +kernel) rfl (Nat.le_of_ble_eq_true rfl) (Nat.le_refl _) (Nat.le_refl _) (fun X hX hF => ?_)
  refine ab_lconst (v := 0) hX dX12_worldsOf_0 rfl ?_
  refine ab_lstore_n hX dX12_worldsOf_1 rfl (by decide) rfl ?_
  refine ab_iconst (v := 0) hX dX12_worldsOf_2 (by decide) ?_
  refine ab_istore_n hX dX12_worldsOf_3 rfl (by decide) rfl ?_
  have L4 : ∀ (k4_ : Nat) (n : Nat) (hn : n ≤ 64), k4_ = 64 - n → ab_WA G mX12_worldsOf X 4 [(0, .int s), (1, .long (worldsN s n)), (3, .int (nI n))] [] h := by
    intro k4_
    induction k4_ using Nat.strongRecOn with
    | _ k4_ ih4 =>
      intro n hn hk4_
      refine ab_iload_n hX dX12_worldsOf_4 mm2 ?_
      refine ab_bipush (v := 64) hX dX12_worldsOf_5 (by decide) ?_
      refine ab_icmpge (tgt := 30) hX dX12_worldsOf_7 (by decide) (fun h_1 => ?_) (fun h_1 => ?_)
      ·
        have hx_ := ctE (N := 64) h_1 (by rfl) (by omega) (by omega)
        obtain rfl : 64 = n := by omega
        refine ab_lload_n hX dX12_worldsOf_30 mm1 ?_
        exact ab_lreturn hX hF dX12_worldsOf_31 rfl (congrArg some (congrArg Value.long (by rfl))) (by rfl)
      ·
        have hlt_ := ctL (N := 64) h_1 (by rfl) (by omega) (by omega)
        refine ab_iload_n hX dX12_worldsOf_10 mm0 ?_
        refine ab_iload_n hX dX12_worldsOf_11 mm2 ?_
        refine ab_callS2r hX dX12_worldsOf_12 ss_X12_worldsOf_58 (cm_X12_isTrueIn hG) (Nat.le_of_ble_eq_true rfl) ?_
        refine ab_ifeqB (tgt := 24) hX dX12_worldsOf_15 (by decide) (fun h_2 => ?_) (fun h_2 => ?_)
        ·
          refine ab_iinc hX dX12_worldsOf_24 mm2 rfl (by decide) rfl ?_
          refine ab_goto (tgt := 4) hX dX12_worldsOf_27 (by decide) ?_
          exact ab_pm3 (mmv1 (congrArg Value.int (by first | exact (nI_1 _).symm | rfl | simp [worldsN, h_1, h_2]))) (mmv2 (congrArg Value.long (by first | exact (nI_1 _).symm | rfl | simp [worldsN, h_1, h_2]))) (mmv0 (congrArg Value.int (by first | exact (nI_1 _).symm | rfl | simp [worldsN, h_1, h_2]))) (ih4 (_) (by omega) (n + 1) (by omega) rfl)
        ·
          refine ab_lload_n hX dX12_worldsOf_18 mm1 ?_
          refine ab_lconst (v := 1) hX dX12_worldsOf_19 rfl ?_
          refine ab_iload_n hX dX12_worldsOf_20 mm2 ?_
          refine ab_lshl hX dX12_worldsOf_21 ?_
          refine ab_lor hX dX12_worldsOf_22 ?_
          refine ab_lstore_n hX dX12_worldsOf_23 rfl (by decide) rfl ?_
          refine ab_iinc hX dX12_worldsOf_24 mm2 rfl (by decide) rfl ?_
          refine ab_goto (tgt := 4) hX dX12_worldsOf_27 (by decide) ?_
          exact ab_pm3 (mmv2 (congrArg Value.int (by first | exact (nI_1 _).symm | rfl | simp [worldsN, h_1, h_2]))) (mmv1 (congrArg Value.long (by first | exact (nI_1 _).symm | rfl | simp [worldsN, h_1, h_2]))) (mmv0 (congrArg Value.int (by first | exact (nI_1 _).symm | rfl | simp [worldsN, h_1, h_2]))) (ih4 (_) (by omega) (n + 1) (by omega) rfl)
  exact ab_pm3 (mmv2 (congrArg Value.int (by rfl))) (mmv1 (congrArg Value.long (by rfl))) (mmv0 (congrArg Value.int (by rfl))) (L4 _ 0 (by omega) rfl)
theorem cm_X12_isSlip {G : ab_G} (hG : ab_GG G) {A : List ab_E} {s : MS} {B : List ab_E} (hA : A.length = 42) {k : Int32} {j : Nat} (hj : k = nI j) (hj2 : j < 10) : ab_CM G mX12_isSlip [.ref 42, .int k] (mH A s B) (some (.int (bi (isTB (s.2.1 6 j) (s.1 0))))) (mH A s B) := by
  refine ab_meth (l0 := [(0, .ref 42), (1, .int k)]) hG (by decide +kernel) rfl (Nat.le_of_ble_eq_true rfl) (Nat.le_refl _) (Nat.le_refl _) (fun X hX hF => ?_)
  refine ab_aload_n hX dX12_isSlip_0 mm0 ?_
  refine ab_getfield hX dX12_isSlip_1 (fs_X12_16_13 rfl) (mg_o hA) rfl ?_
  refine ab_iload_n hX dX12_isSlip_4 mm1 ?_
  refine ab_iald (i := j) hX dX12_isSlip_5 (mg_6 hA) hj hj2 (by decide) ?_
  refine ab_aload_n hX dX12_isSlip_6 mm0 ?_
  refine ab_getfield hX dX12_isSlip_7 (fs_X12_61_13 rfl) (mg_o hA) rfl ?_
  refine ab_callS2r hX dX12_isSlip_10 ss_X12_isSlip_58 (cm_X12_isTrueIn hG) (Nat.le_of_ble_eq_true rfl) ?_
  exact ab_ireturn hX hF dX12_isSlip_13 rfl (by first | rfl | exact bi_n _) (congrArg some (congrArg Value.int (by rfl))) (by rfl)
theorem cm_X12_of {G : ab_G} (hG : ab_GG G) {h : List ab_E} {s : Int32} {what : Int32}  : ab_CM G mX12_of [.int s, .int what] h (some (.int (ofI s what))) h := by
  refine ab_meth (l0 := [(0, .int s), (1, .int what)]) hG (by decide +kernel) rfl (Nat.le_of_ble_eq_true rfl) (Nat.le_refl _) (Nat.le_refl _) (fun X hX hF => ?_)
  refine ab_iload_n hX dX12_of_0 mm1 ?_
  rcases ab_sw0_4 (what) with h_1 | h_1 | h_1 | h_1 | h_1 | h_1
  ·
    refine ab_tsIn (tgt := 36) hX dX12_of_1 (by rw [h_1]; decide) (by rw [h_1]; decide) (off := 35) (by rw [h_1]; rfl) (by decide) ?_
    refine ab_iload_n hX dX12_of_36 mm0 ?_
    refine ab_sipush (v := 1000) hX dX12_of_37 (by decide) ?_
    refine ab_idiv hX dX12_of_40 (by decide) ?_
    exact ab_ireturn hX hF dX12_of_41 rfl (by rfl) (congrArg some (congrArg Value.int (by simp [ofI, h_1]))) (by rfl)
  ·
    refine ab_tsIn (tgt := 42) hX dX12_of_1 (by rw [h_1]; decide) (by rw [h_1]; decide) (off := 41) (by rw [h_1]; rfl) (by decide) ?_
    refine ab_iload_n hX dX12_of_42 mm0 ?_
    refine ab_bipush (v := 100) hX dX12_of_43 (by decide) ?_
    refine ab_idiv hX dX12_of_45 (by decide) ?_
    refine ab_bipush (v := 10) hX dX12_of_46 (by decide) ?_
    refine ab_irem hX dX12_of_48 (by decide) ?_
    exact ab_ireturn hX hF dX12_of_49 rfl (by rfl) (congrArg some (congrArg Value.int (by simp [ofI, h_1]))) (by rfl)
  ·
    refine ab_tsIn (tgt := 50) hX dX12_of_1 (by rw [h_1]; decide) (by rw [h_1]; decide) (off := 49) (by rw [h_1]; rfl) (by decide) ?_
    refine ab_iload_n hX dX12_of_50 mm0 ?_
    refine ab_bipush (v := 10) hX dX12_of_51 (by decide) ?_
    refine ab_idiv hX dX12_of_53 (by decide) ?_
    refine ab_bipush (v := 10) hX dX12_of_54 (by decide) ?_
    refine ab_irem hX dX12_of_56 (by decide) ?_
    exact ab_ireturn hX hF dX12_of_57 rfl (by rfl) (congrArg some (congrArg Value.int (by simp [ofI, h_1]))) (by rfl)
  ·
    refine ab_tsIn (tgt := 58) hX dX12_of_1 (by rw [h_1]; decide) (by rw [h_1]; decide) (off := 57) (by rw [h_1]; rfl) (by decide) ?_
    refine ab_iload_n hX dX12_of_58 mm0 ?_
    refine ab_bipush (v := 10) hX dX12_of_59 (by decide) ?_
    refine ab_irem hX dX12_of_61 (by decide) ?_
    exact ab_ireturn hX hF dX12_of_62 rfl (by rfl) (congrArg some (congrArg Value.int (by simp [ofI, h_1]))) (by rfl)
  ·
    refine ab_tsIn (tgt := 63) hX dX12_of_1 (by rw [h_1]; decide) (by rw [h_1]; decide) (off := 62) (by rw [h_1]; rfl) (by decide) ?_
    refine ab_iload_n hX dX12_of_63 mm0 ?_
    refine ab_callS1r hX dX12_of_64 ss_X12_of_64 (cm_X12_sizeOf hG) (Nat.le_of_ble_eq_true rfl) ?_
    exact ab_ireturn hX hF dX12_of_67 rfl (by rfl) (congrArg some (congrArg Value.int (by simp [ofI, h_1]))) (by rfl)
  ·
    refine ab_tsOut (tgt := 68) hX dX12_of_1 h_1.1 (by decide) ?_
    refine ab_iload_n hX dX12_of_68 mm0 ?_
    refine ab_callS1r hX dX12_of_69 ss_X12_of_68 (cm_X12_aboutOf hG) (Nat.le_of_ble_eq_true rfl) ?_
    exact ab_ireturn hX hF dX12_of_72 rfl (by rfl) (congrArg some (congrArg Value.int (by simp [ofI, h_1]))) (by rfl)
