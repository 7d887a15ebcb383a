def tn (x : Int32) : Nat := x.toNatClampNeg
theorem tn_nI {j : Nat} (h : j < 2147483648) : tn (nI j) = j := nI_clamp (by omega)
/-- what is in a range from 0 on is a number -/
theorem iw_ex {x m : Int32} {n : Nat} (hm : m = nI n - 1) (hn : n ≤ 1000) (h : iw x 0 m = true) : ∃ j, j < n ∧ x = nI j := by
  simp only [iw, Bool.and_eq_true, Bool.not_eq_true', decide_eq_false_iff_not] at h
  obtain ⟨h1, h2⟩ := h
  rw [Int32.lt_iff_toInt_lt] at h1 h2
  have e : m.toInt = (n : Int) - 1 := by
    rw [hm]
    cases n with
    | zero => decide
    | succ k => rw [nI_pred]; rw [nI_toInt (by omega)]; omega
  rw [e] at h2
  have h1' : 0 ≤ x.toInt := by simpa using h1
  refine ⟨x.toInt.toNat, by omega, ?_⟩
  apply Int32.toInt_inj.mp
  rw [nI_toInt (by omega)]
  omega
theorem iw8 {x : Int32} (h : iw x 0 7 = true) : ∃ j, j < 8 ∧ x = nI j := iw_ex (n := 8) (by decide) (by decide) h
theorem iw6 {x : Int32} (h : iw x 0 5 = true) : ∃ j, j < 6 ∧ x = nI j := iw_ex (n := 6) (by decide) (by decide) h
theorem ix100 (j i : Nat) : (100 : Int32) * nI j + nI i = nI (100 * j + i) := by rw [show (100 : Int32) = nI 100 from rfl, pk_mul, nI_add]
/-- shelves: what they hold; rows are short -/
def shI (s : MS) : Prop := ∀ j, j < 8 → (s.2.1 8 j = 0 ∨ s.2.1 8 j = 1 ∨ s.2.1 8 j = 2) ∧ (s.2.1 8 j = 2 → ∃ n, n ≤ 100 ∧ s.2.1 10 j = nI n)
def lieF (s : MS) (left : Int64) (j : Nat) (i : Nat) (p : Int32 × Int32 × Int32) : Int32 × Int32 × Int32 :=
  if lieB s (psI (nI i)) j = true then (if p.2.2 < lbc (left &&& (worldsN (psI (nI i)) 64 ^^^ (-1))) then (p.1 + 1, 100 * (psI (nI i) / 1000) + (psI (nI i) - psI (nI i) / 100 * 100), lbc (left &&& (worldsN (psI (nI i)) 64 ^^^ (-1)))) else (p.1 + 1, p.2.1, p.2.2)) else p
def lieP (s : MS) (nl ns j : Nat) : Int32 × Int32 × Int32 := acc (lieF s (leftA s nl ns) j) (0, -4, -4) 288
def lieM (s : MS) (nl ns : Nat) (w what : Int32) : Int32 := if iw w 0 (s.1 3 - 1) = true then (if iw what 0 2 = true then (if what = 0 then (lieP s nl ns (tn w)).1 else if what = 1 then (lieP s nl ns (tn w)).2.1 else (lieP s nl ns (tn w)).2.2) else -1) else -1
def tl2F (s : MS) (left : Int64) (j : Nat) (k : Nat) (m : Int32) : Int32 := if lieB s (psI (nI k)) j = true then maxI m (lbc (left &&& (worldsN (psI (nI k)) 64 ^^^ (-1)))) else m
def tl1F (s : MS) (left : Int64) (j1 j2 : Nat) (i : Nat) (m : Int32) : Int32 := if lieB s (psI (nI i)) j1 = true then acc (tl2F s (left &&& (worldsN (psI (nI i)) 64 ^^^ (-1))) j2) m 288 else m
def twoM (s : MS) (nl ns : Nat) (one other : Int32) : Int32 := if iw one 0 (s.1 3 - 1) = true then (if iw other 0 (s.1 3 - 1) = true then (if one = other then -1 else acc (tl1F s (leftA s nl ns) (tn one) (tn other)) (-4) 288) else -1) else -1
def noS (s : MS) (j : Nat) : Int32 := if s.2.1 8 j = 0 then -11 else if s.2.1 8 j = 2 then -12 else 0
def noR (s : MS) (j : Nat) : Int32 := if s.2.1 8 j = 0 then -11 else if s.2.1 8 j = 1 then -12 else 0
theorem noR_row {s : MS} {j : Nat} (hSh : shI s) (hj : j < 8) (h : 0 ≤ noR s j) : ∃ n, n ≤ 100 ∧ s.2.1 10 j = nI n := by
  obtain ⟨q, r⟩ := hSh j hj
  refine r ?_
  simp only [noR] at h
  rcases q with q | q | q
  · rw [if_pos q] at h; exact absurd h (by decide)
  · rw [if_neg (by rw [q]; decide), if_pos q] at h; exact absurd h (by decide)
  · exact q
def onS (s : MS) (j : Nat) (a b : Int32) : Int32 := made (s.2.1 9 j) (s.2.1 10 j) a b
def tellsM (s : MS) (nl ns : Nat) (d a b : Int32) : Int32 := if iw d 0 7 = true then (if iw a 0 5 = true then (if iw b 0 5 = true then (if 0 ≤ noS s (tn d) then lbc (leftA s nl ns &&& worldsN (onS s (tn d) a b) 64) else noS s (tn d)) else -1) else -1) else -1
def vdF (s : MS) (i : Nat) (b : Int32) : Int32 := b &&& (aboutI (s.2.1 6 i) ^^^ (-1))
def verdictM (s : MS) (ns : Nat) : Int32 := acc (vdF s) (s.1 0) ns
def likeF (s : MS) (x : Int64) (w : Int32) (j : Nat) (i : Nat) (b : Int64) : Int64 := if (x >>> ((nI i).toInt64 &&& 63)) &&& 1 = 1 then (if (nI i ^^^ w) &&& s.2.1 4 j = 0 then b ||| (1 : Int64) <<< ((nI i).toInt64 &&& 63) else b) else b
def likeI (s : MS) (x : Int64) (w : Int32) (j : Nat) : Int64 := acc (likeF s x w j) 0 64
def alikeI (x : Int64) : Int32 := factsI x 1 ||| factsI x 0
def certainM (s : MS) (nl ns : Nat) (w : Int32) : Int32 := if iw w 0 (s.1 3 - 1) = true then alikeI (likeI s (leftA s nl ns) (s.1 0) (tn w)) else -1
def knF (s : MS) (left first : Int64) (j : Nat) (i : Nat) (b : Int32) : Int32 := if (first >>> ((nI i).toInt64 &&& 63)) &&& 1 = 1 then b &&& alikeI (likeI s left (nI i) j) else b
def knowsOfM (s : MS) (nl ns : Nat) (one other : Int32) : Int32 := if iw one 0 (s.1 3 - 1) = true then (if iw other 0 (s.1 3 - 1) = true then acc (knF s (leftA s nl ns) (likeI s (leftA s nl ns) (s.1 0) (tn one)) (tn other)) 63 64 else -1) else -1
def ak0F (s : MS) (left : Int64) (i : Nat) (r : Int64) : Int64 := r ||| likeI s left (s.1 0) i
def ak2F (s : MS) (left before : Int64) (v : Nat) (w : Nat) (r : Int64) : Int64 := if (before >>> ((nI v).toInt64 &&& 63)) &&& 1 = 1 then r ||| likeI s left (nI v) w else r
def ak1F (s : MS) (left : Int64) (nw : Nat) (before : Int64) (v : Nat) (r : Int64) : Int64 := acc (ak2F s left before v) r nw
def akF (s : MS) (left : Int64) (nw : Nat) (_ : Nat) (r : Int64) : Int64 := acc (ak1F s left nw r) r 64
def akB (s : MS) (r : Int64) (v : Nat) (b : Int32) : Int32 := if (r >>> ((nI v).toInt64 &&& 63)) &&& 1 = 1 then b &&& ((nI v ^^^ s.1 0) ^^^ (-1)) else b
def akR (s : MS) (left : Int64) (nw n : Nat) : Int64 := acc (akF s left nw) (acc (ak0F s left) 0 nw) n
def allKnowM (s : MS) (nl nw ns : Nat) (n : Int32) : Int32 := if iw n 0 5 = true then (if s.1 3 = 0 then -3 else acc (akB s (akR s (leftA s nl ns) nw (tn n))) 63 64) else -1
def lstS (s : MS) (j : Nat) : Int32 := if s.2.1 9 j = 0 then -128 else if s.2.1 9 j = 1 then -32768 else -2147483648
def ftN (s : MS) (j : Nat) : Nat → Nat → Int64 → Int64
  | 0, _, b => b
  | k + 1, i, b => if s.2.1 11 (100 * j + i) = lstS s j then ftN s j k (i + 1) b else if iw (s.2.1 11 (100 * j + i)) 0 1 = true then ftN s j k (i + 1) (b &&& (if s.2.1 11 (100 * j + i) = 1 then worldsN (s.2.1 6 i) 64 else worldsN (s.2.1 6 i) 64 ^^^ (-1))) else 4000000000000000013
theorem ftN_s {s : MS} {j k i : Nat} {b : Int64} : ftN s j (k + 1) i b = if s.2.1 11 (100 * j + i) = lstS s j then ftN s j k (i + 1) b else if iw (s.2.1 11 (100 * j + i)) 0 1 = true then ftN s j k (i + 1) (b &&& (if s.2.1 11 (100 * j + i) = 1 then worldsN (s.2.1 6 i) 64 else worldsN (s.2.1 6 i) 64 ^^^ (-1))) else 4000000000000000013 := rfl
def fitsM (s : MS) (nl : Nat) (d : Int32) : Int64 := if iw d 0 7 = true then (if 0 ≤ noR s (tn d) then (if s.2.1 10 (tn d) ≤ s.1 5 then ftN s (tn d) (tn (s.2.1 10 (tn d))) 0 (mayBeI s nl) else 4000000000000000013) else 4000000000000000000 - (noR s (tn d)).toInt64) else 4000000000000000001
def jdN (s : MS) (nl ns j : Nat) : Nat → Nat → Int32
  | 0, _ => -4
  | k + 1, i => if s.2.1 11 (100 * j + i) = lstS s j then jdN s nl ns j k (i + 1) else if s.1 5 < nI i then nI i else if s.2.1 11 (100 * j + i) = lbc (leftI s nl ns ((1 : Int32) <<< (nI i &&& 31) - 1)) then jdN s nl ns j k (i + 1) else nI i
theorem jdN_s {s : MS} {nl ns j k i : Nat} : jdN s nl ns j (k + 1) i = if s.2.1 11 (100 * j + i) = lstS s j then jdN s nl ns j k (i + 1) else if s.1 5 < nI i then nI i else if s.2.1 11 (100 * j + i) = lbc (leftI s nl ns ((1 : Int32) <<< (nI i &&& 31) - 1)) then jdN s nl ns j k (i + 1) else nI i := rfl
def judgeM (s : MS) (nl ns : Nat) (d : Int32) : Int32 := if iw d 0 7 = true then (if 0 ≤ noR s (tn d) then jdN s nl ns (tn d) (tn (s.2.1 10 (tn d))) 0 else noR s (tn d)) else -1
def ctF (s : MS) (i : Nat) (b : Int32) : Int32 := b + sizeI (s.2.1 6 i)
def countM (s : MS) (nl ns : Nat) (what : Int32) : Int32 := if what = 0 then s.1 1 else if what = 1 then s.1 3 else if what = 2 then s.1 5 else if what = 3 then s.1 0 else if what = 4 then acc (ctF s) 0 ns
  else if what = 5 then ((mayBeI s nl >>> ((s.1 0).toInt64 &&& 63)) &&& 1).toInt32 else if what = 6 then ((leftA s nl ns >>> ((s.1 0).toInt64 &&& 63)) &&& 1).toInt32 else -1
def lawM (s : MS) (k what : Int32) : Int32 := if iw k 0 (s.1 1 - 1) = true then (if iw what 0 5 = true then ofI (s.2.1 2 (tn k)) what else -1) else -1
def saidM (s : MS) (k what : Int32) : Int32 := if iw k 0 (s.1 5 - 1) = true then (if iw what 0 7 = true then (if what = 6 then s.2.1 7 (tn k) else if what = 7 then (if isTB (s.2.1 6 (tn k)) (s.1 0) = true then 1 else 0) else ofI (s.2.1 6 (tn k)) what) else -1) else -1
def knowsM (s : MS) (w : Int32) : Int32 := if iw w 0 (s.1 3 - 1) = true then s.2.1 4 (tn w) else -1
def isTrueM (s : MS) (d a b world : Int32) : Int32 := if iw d 0 7 = true then (if iw a 0 5 = true then (if iw b 0 5 = true then (if iw world 0 63 = true then (if 0 ≤ noS s (tn d) then (if isTB (onS s (tn d) a b) world = true then 1 else 0) else noS s (tn d)) else -1) else -1) else -1) else -1
def costS (s : MS) (j : Nat) : Int32 := if s.2.1 9 j = 0 then 2 else if s.2.1 9 j = 1 then 3 else if s.2.1 9 j = 2 then 4 else if s.2.1 9 j = 3 then 9 else if s.2.1 9 j = 4 then 8 else if s.2.1 9 j = 5 then 4 + s.2.1 10 j else if s.2.1 9 j = 6 then 30 else 9 + s.2.1 10 j
def costM (s : MS) (d : Int32) : Int32 := if iw d 0 7 = true then (if 0 ≤ noS s (tn d) then costS s (tn d) else noS s (tn d)) else -1
def tossM (s : MS) (d : Int32) : Int32 := if iw d 0 7 = true then (if 0 ≤ noS s (tn d) then (if s.2.1 9 (tn d) = 6 then -15 else if s.2.1 10 (tn d) = 0 then -15 else if 2 ≤ s.2.1 9 (tn d) then (if s.2.1 9 (tn d) = 7 then 200 + costS s (tn d) else 100 + s.2.1 10 (tn d)) else s.2.1 10 (tn d)) else noS s (tn d)) else -1
theorem cm_X12_lie {G : ab_G} (hG : ab_GG G) {A : List ab_E} {s : MS} {B : List ab_E} (hA : A.length = 42) {w : Int32} {what : Int32} {nl nw ns : Nat} (hI : mI s nl nw ns)  : ab_CM G mX12_lie [.ref 42, .int w, .int what] (mH A s B) (some (.int (lieM s nl ns w what))) (mH A s B) := by
  refine ab_meth (l0 := [(0, .ref 42), (1, .int w), (2, .int what)]) hG (by decide +kernel) rfl (Nat.le_of_ble_eq_true rfl) (Nat.le_refl _) (Nat.le_refl _) (fun X hX hF => ?_)
  obtain ⟨hl, hl6, hw, hw5, hs, hs10⟩ := id hI
  refine ab_aload_n hX dX12_lie_0 mm0 ?_
  refine ab_iload_n hX dX12_lie_1 mm1 ?_
  refine ab_callV1r hX dX12_lie_2 (mg_o hA) ss_X12_lie_104 (cm_X12_isWitness hG hA) (Nat.le_of_ble_eq_true rfl) ?_
  refine ab_ifeqB (tgt := 17) hX dX12_lie_5 (by decide) (fun h_1 => ?_) (fun h_1 => ?_)
  ·
    refine ab_iconst (v := (-1)) hX dX12_lie_17 (by decide) ?_
    exact ab_ireturn hX hF dX12_lie_18 rfl (by rfl) (congrArg some (congrArg Value.int (by first | rfl | (simp only [lieM, lieP, h_1, ↓reduceIte, Bool.false_eq_true]; done) | (simp only [lieM, lieP, h_1, ↓reduceIte, Bool.false_eq_true]; rfl) | (unfold lieM; (repeat' split) <;> first | rfl | contradiction | (simp_all; done))))) (by rfl)
  ·
    obtain ⟨j, hj, rfl⟩ := iw_ex (n := nw) (by rw [hw]) (by omega) h_1
    have hjc := tn_nI (j := j) (by omega)
    refine ab_iload_n hX dX12_lie_8 mm2 ?_
    refine ab_iconst (v := 0) hX dX12_lie_9 (by decide) ?_
    refine ab_iconst (v := 2) hX dX12_lie_10 (by decide) ?_
    refine ab_callS3r hX dX12_lie_11 ss_X12_lie_43 (cm_X12_within hG) (Nat.le_of_ble_eq_true rfl) ?_
    refine ab_ifneB (tgt := 19) hX dX12_lie_14 (by decide) (fun h_2 => ?_) (fun h_2 => ?_)
    ·
      refine ab_aload_n hX dX12_lie_19 mm0 ?_
      refine ab_callV0r hX dX12_lie_20 (mg_o hA) ss_X12_lie_153 (cm_X12_left hG hA hI) (Nat.le_of_ble_eq_true rfl) ?_
      refine ab_lstore_n hX dX12_lie_23 rfl (by decide) rfl ?_
      refine ab_iconst (v := 0) hX dX12_lie_24 (by decide) ?_
      refine ab_istore hX dX12_lie_25 (by decide) rfl ?_
      refine ab_bipush (v := (-4)) hX dX12_lie_27 (by decide) ?_
      refine ab_istore hX dX12_lie_29 (by decide) rfl ?_
      refine ab_bipush (v := (-4)) hX dX12_lie_31 (by decide) ?_
      refine ab_istore hX dX12_lie_33 (by decide) rfl ?_
      refine ab_iconst (v := 0) hX dX12_lie_35 (by decide) ?_
      refine ab_istore hX dX12_lie_36 (by decide) rfl ?_
      have L38 : ∀ (k38_ : Nat) (i : Nat) (hi_ : i ≤ 288), k38_ = 288 - i → ab_WA G mX12_lie X 38 [(0, .ref 42), (1, .int (nI j)), (2, .int what), (3, .long (leftA s nl ns)), (5, .int (acc (lieF s (leftA s nl ns) j) (0, -4, -4) i).1), (6, .int (acc (lieF s (leftA s nl ns) j) (0, -4, -4) i).2.1), (7, .int (acc (lieF s (leftA s nl ns) j) (0, -4, -4) i).2.2), (8, .int (nI i))] [] (mH A s B) := by
        intro k38_
        induction k38_ using Nat.strongRecOn with
        | _ k38_ ih38 =>
          intro i hi_ hk38_
          refine ab_iload hX dX12_lie_38 mm7 ?_
          refine ab_sipush (v := 288) hX dX12_lie_40 (by decide) ?_
          refine ab_icmpge (tgt := 122) hX dX12_lie_43 (by decide) (fun h_3 => ?_) (fun h_3 => ?_)
          ·
            have hx_ := ctE (N := 288) h_3 (by rfl) (by omega) (by omega)
            obtain rfl : 288 = i := by omega
            refine ab_iload_n hX dX12_lie_122 mm2 ?_
            refine ab_ifne (tgt := 131) hX dX12_lie_123 (by decide) (fun h_4 => ?_) (fun h_4 => ?_)
            ·
              refine ab_iload_n hX dX12_lie_131 mm2 ?_
              refine ab_iconst (v := 1) hX dX12_lie_132 (by decide) ?_
              refine ab_icmpne (tgt := 141) hX dX12_lie_133 (by decide) (fun h_5 => ?_) (fun h_5 => ?_)
              ·
                refine ab_iload hX dX12_lie_141 mm6 ?_
                exact ab_ireturn hX hF dX12_lie_143 rfl (by rfl) (congrArg some (congrArg Value.int (by first | rfl | (simp only [lieM, lieP, h_1, hjc, h_2, h_3, h_4, h_5, ↓reduceIte, Bool.false_eq_true]; done) | (simp only [lieM, lieP, h_1, hjc, h_2, h_3, h_4, h_5, ↓reduceIte, Bool.false_eq_true]; rfl) | (unfold lieM; (repeat' split) <;> first | rfl | contradiction | (simp_all; done))))) (by rfl)
              ·
                refine ab_iload hX dX12_lie_136 mm5 ?_
                refine ab_goto (tgt := 143) hX dX12_lie_138 (by decide) ?_
                exact ab_ireturn hX hF dX12_lie_143 rfl (by rfl) (congrArg some (congrArg Value.int (by first | rfl | (simp only [lieM, lieP, h_1, hjc, h_2, h_3, h_4, h_5, ↓reduceIte, Bool.false_eq_true]; done) | (simp only [lieM, lieP, h_1, hjc, h_2, h_3, h_4, h_5, ↓reduceIte, Bool.false_eq_true]; rfl) | (unfold lieM; (repeat' split) <;> first | rfl | contradiction | (simp_all; done))))) (by rfl)
            ·
              refine ab_iload hX dX12_lie_126 mm4 ?_
              refine ab_goto (tgt := 143) hX dX12_lie_128 (by decide) ?_
              exact ab_ireturn hX hF dX12_lie_143 rfl (by rfl) (congrArg some (congrArg Value.int (by first | rfl | (simp only [lieM, lieP, h_1, hjc, h_2, h_3, h_4, ↓reduceIte, Bool.false_eq_true]; done) | (simp only [lieM, lieP, h_1, hjc, h_2, h_3, h_4, ↓reduceIte, Bool.false_eq_true]; rfl) | (unfold lieM; (repeat' split) <;> first | rfl | contradiction | (simp_all; done))))) (by rfl)
          ·
            have hlti_ := ctL (N := 288) h_3 (by rfl) (by omega) (by omega)
            refine ab_iload hX dX12_lie_46 mm7 ?_
            refine ab_callS1r hX dX12_lie_48 ss_X12_lie_190 (cm_X12_plainSaying hG) (Nat.le_of_ble_eq_true rfl) ?_
            refine ab_istore hX dX12_lie_51 (by decide) rfl ?_
            refine ab_aload_n hX dX12_lie_53 mm1 ?_
            refine ab_iload hX dX12_lie_54 mm0 ?_
            refine ab_iload_n hX dX12_lie_56 mm2 ?_
            refine ab_callV2r hX dX12_lie_57 (mg_o hA) ss_X12_lie_193 (cm_X12_isLie hG hA rfl (by omega)) (Nat.le_of_ble_eq_true rfl) ?_
            refine ab_ifneB (tgt := 66) hX dX12_lie_60 (by decide) (fun h_6 => ?_) (fun h_6 => ?_)
            ·
              refine ab_iinc hX dX12_lie_66 mm5 rfl (by decide) rfl ?_
              refine ab_lload_n hX dX12_lie_69 mm5 ?_
              refine ab_iload hX dX12_lie_70 mm1 ?_
              refine ab_callS1r hX dX12_lie_72 ss_X12_lie_140 (cm_X12_worldsOf hG) (Nat.le_of_ble_eq_true rfl) ?_
              refine ab_ldc2 hX dX12_lie_75 tw_1227 ?_
              refine ab_lxor hX dX12_lie_78 ?_
              refine ab_land hX dX12_lie_79 ?_
              refine ab_callS1r hX dX12_lie_80 ss_X12_lie_156 (cm_J13_bitCount_95d88 hG) (Nat.le_of_ble_eq_true rfl) ?_
              refine ab_istore hX dX12_lie_83 (by decide) rfl ?_
              refine ab_iload hX dX12_lie_85 mm0 ?_
              refine ab_iload hX dX12_lie_87 mm8 ?_
              refine ab_icmpgt (tgt := 95) hX dX12_lie_89 (by decide) (fun h_7 => ?_) (fun h_7 => ?_)
              ·
                refine ab_iload hX dX12_lie_95 mm0 ?_
                refine ab_istore hX dX12_lie_97 (by decide) rfl ?_
                refine ab_bipush (v := 100) hX dX12_lie_99 (by decide) ?_
                refine ab_iload hX dX12_lie_101 mm3 ?_
                refine ab_sipush (v := 1000) hX dX12_lie_103 (by decide) ?_
                refine ab_idiv hX dX12_lie_106 (by decide) ?_
                refine ab_imul hX dX12_lie_107 ?_
                refine ab_iload hX dX12_lie_108 mm3 ?_
                refine ab_bipush (v := 100) hX dX12_lie_110 (by decide) ?_
                refine ab_irem hX dX12_lie_112 (by decide) ?_
                refine ab_iadd hX dX12_lie_113 ?_
                refine ab_istore hX dX12_lie_114 (by decide) rfl ?_
                refine ab_iinc hX dX12_lie_116 mm9 rfl (by decide) rfl ?_
                refine ab_goto (tgt := 38) hX dX12_lie_119 (by decide) ?_
                exact ab_pm8 mm6 (mmv7 (congrArg Value.int (by first | exact (nI_1 _).symm | rfl | (rw [acc_s]; first | rfl | (simp only [lieF, h_1, hjc, h_2, h_3, h_6, h_7, ↓reduceIte, Bool.false_eq_true]; done) | (simp only [lieF, h_1, hjc, h_2, h_3, h_6, h_7, ↓reduceIte, Bool.false_eq_true]; rfl))))) (mmv8 (congrArg Value.int (by first | exact (nI_1 _).symm | rfl | (rw [acc_s]; first | rfl | (simp only [lieF, h_1, hjc, h_2, h_3, h_6, h_7, ↓reduceIte, Bool.false_eq_true]; done) | (simp only [lieF, h_1, hjc, h_2, h_3, h_6, h_7, ↓reduceIte, Bool.false_eq_true]; rfl))))) (mmv9 (congrArg Value.long (by first | exact (nI_1 _).symm | rfl | (rw [acc_s]; first | rfl | (simp only [lieF, h_1, hjc, h_2, h_3, h_6, h_7, ↓reduceIte, Bool.false_eq_true]; done) | (simp only [lieF, h_1, hjc, h_2, h_3, h_6, h_7, ↓reduceIte, Bool.false_eq_true]; rfl))))) (mmv4 (congrArg Value.int (by first | exact (nI_1 _).symm | rfl | (rw [acc_s]; first | rfl | (simp only [lieF, h_1, hjc, h_2, h_3, h_6, h_7, ↓reduceIte, Bool.false_eq_true]; done) | (simp only [lieF, h_1, hjc, h_2, h_3, h_6, h_7, ↓reduceIte, Bool.false_eq_true]; rfl))))) (mmv1 (congrArg Value.int (by first | exact (nI_1 _).symm | rfl | (rw [acc_s]; first | rfl | (simp only [lieF, h_1, hjc, h_2, h_3, h_6, h_7, ↓reduceIte, Bool.false_eq_true]; done) | (simp only [lieF, h_1, hjc, h_2, h_3, h_6, h_7, ↓reduceIte, Bool.false_eq_true]; rfl))))) (mmv2 (congrArg Value.int (by first | exact (nI_1 _).symm | rfl | (rw [acc_s]; first | rfl | (simp only [lieF, h_1, hjc, h_2, h_3, h_6, h_7, ↓reduceIte, Bool.false_eq_true]; done) | (simp only [lieF, h_1, hjc, h_2, h_3, h_6, h_7, ↓reduceIte, Bool.false_eq_true]; rfl))))) (mmv0 (congrArg Value.int (by first | exact (nI_1 _).symm | rfl | (rw [acc_s]; first | rfl | (simp only [lieF, h_1, hjc, h_2, h_3, h_6, h_7, ↓reduceIte, Bool.false_eq_true]; done) | (simp only [lieF, h_1, hjc, h_2, h_3, h_6, h_7, ↓reduceIte, Bool.false_eq_true]; rfl))))) (ih38 (_) (by omega) (i + 1) (by omega) rfl)
              ·
                refine ab_goto (tgt := 116) hX dX12_lie_92 (by decide) ?_
                refine ab_iinc hX dX12_lie_116 mm9 rfl (by decide) rfl ?_
                refine ab_goto (tgt := 38) hX dX12_lie_119 (by decide) ?_
                exact ab_pm8 mm4 (mmv5 (congrArg Value.int (by first | exact (nI_1 _).symm | rfl | (rw [acc_s]; first | rfl | (simp only [lieF, h_1, hjc, h_2, h_3, h_6, h_7, ↓reduceIte, Bool.false_eq_true]; done) | (simp only [lieF, h_1, hjc, h_2, h_3, h_6, h_7, ↓reduceIte, Bool.false_eq_true]; rfl))))) (mmv6 (congrArg Value.int (by first | exact (nI_1 _).symm | rfl | (rw [acc_s]; first | rfl | (simp only [lieF, h_1, hjc, h_2, h_3, h_6, h_7, ↓reduceIte, Bool.false_eq_true]; done) | (simp only [lieF, h_1, hjc, h_2, h_3, h_6, h_7, ↓reduceIte, Bool.false_eq_true]; rfl))))) (mmv7 (congrArg Value.long (by first | exact (nI_1 _).symm | rfl | (rw [acc_s]; first | rfl | (simp only [lieF, h_1, hjc, h_2, h_3, h_6, h_7, ↓reduceIte, Bool.false_eq_true]; done) | (simp only [lieF, h_1, hjc, h_2, h_3, h_6, h_7, ↓reduceIte, Bool.false_eq_true]; rfl))))) (mmv2 (congrArg Value.int (by first | exact (nI_1 _).symm | rfl | (rw [acc_s]; first | rfl | (simp only [lieF, h_1, hjc, h_2, h_3, h_6, h_7, ↓reduceIte, Bool.false_eq_true]; done) | (simp only [lieF, h_1, hjc, h_2, h_3, h_6, h_7, ↓reduceIte, Bool.false_eq_true]; rfl))))) (mmv8 (congrArg Value.int (by first | exact (nI_1 _).symm | rfl | (rw [acc_s]; first | rfl | (simp only [lieF, h_1, hjc, h_2, h_3, h_6, h_7, ↓reduceIte, Bool.false_eq_true]; done) | (simp only [lieF, h_1, hjc, h_2, h_3, h_6, h_7, ↓reduceIte, Bool.false_eq_true]; rfl))))) (mmv9 (congrArg Value.int (by first | exact (nI_1 _).symm | rfl | (rw [acc_s]; first | rfl | (simp only [lieF, h_1, hjc, h_2, h_3, h_6, h_7, ↓reduceIte, Bool.false_eq_true]; done) | (simp only [lieF, h_1, hjc, h_2, h_3, h_6, h_7, ↓reduceIte, Bool.false_eq_true]; rfl))))) (mmv0 (congrArg Value.int (by first | exact (nI_1 _).symm | rfl | (rw [acc_s]; first | rfl | (simp only [lieF, h_1, hjc, h_2, h_3, h_6, h_7, ↓reduceIte, Bool.false_eq_true]; done) | (simp only [lieF, h_1, hjc, h_2, h_3, h_6, h_7, ↓reduceIte, Bool.false_eq_true]; rfl))))) (ih38 (_) (by omega) (i + 1) (by omega) rfl)
            ·
              refine ab_goto (tgt := 116) hX dX12_lie_63 (by decide) ?_
              refine ab_iinc hX dX12_lie_116 mm8 rfl (by decide) rfl ?_
              refine ab_goto (tgt := 38) hX dX12_lie_119 (by decide) ?_
              exact ab_pm8 mm2 (mmv3 (congrArg Value.int (by first | exact (nI_1 _).symm | rfl | (rw [acc_s]; first | rfl | (simp only [lieF, h_1, hjc, h_2, h_3, h_6, ↓reduceIte, Bool.false_eq_true]; done) | (simp only [lieF, h_1, hjc, h_2, h_3, h_6, ↓reduceIte, Bool.false_eq_true]; rfl))))) (mmv4 (congrArg Value.int (by first | exact (nI_1 _).symm | rfl | (rw [acc_s]; first | rfl | (simp only [lieF, h_1, hjc, h_2, h_3, h_6, ↓reduceIte, Bool.false_eq_true]; done) | (simp only [lieF, h_1, hjc, h_2, h_3, h_6, ↓reduceIte, Bool.false_eq_true]; rfl))))) (mmv5 (congrArg Value.long (by first | exact (nI_1 _).symm | rfl | (rw [acc_s]; first | rfl | (simp only [lieF, h_1, hjc, h_2, h_3, h_6, ↓reduceIte, Bool.false_eq_true]; done) | (simp only [lieF, h_1, hjc, h_2, h_3, h_6, ↓reduceIte, Bool.false_eq_true]; rfl))))) (mmv6 (congrArg Value.int (by first | exact (nI_1 _).symm | rfl | (rw [acc_s]; first | rfl | (simp only [lieF, h_1, hjc, h_2, h_3, h_6, ↓reduceIte, Bool.false_eq_true]; done) | (simp only [lieF, h_1, hjc, h_2, h_3, h_6, ↓reduceIte, Bool.false_eq_true]; rfl))))) (mmv7 (congrArg Value.int (by first | exact (nI_1 _).symm | rfl | (rw [acc_s]; first | rfl | (simp only [lieF, h_1, hjc, h_2, h_3, h_6, ↓reduceIte, Bool.false_eq_true]; done) | (simp only [lieF, h_1, hjc, h_2, h_3, h_6, ↓reduceIte, Bool.false_eq_true]; rfl))))) (mmv8 (congrArg Value.int (by first | exact (nI_1 _).symm | rfl | (rw [acc_s]; first | rfl | (simp only [lieF, h_1, hjc, h_2, h_3, h_6, ↓reduceIte, Bool.false_eq_true]; done) | (simp only [lieF, h_1, hjc, h_2, h_3, h_6, ↓reduceIte, Bool.false_eq_true]; rfl))))) (mmv0 (congrArg Value.int (by first | exact (nI_1 _).symm | rfl | (rw [acc_s]; first | rfl | (simp only [lieF, h_1, hjc, h_2, h_3, h_6, ↓reduceIte, Bool.false_eq_true]; done) | (simp only [lieF, h_1, hjc, h_2, h_3, h_6, ↓reduceIte, Bool.false_eq_true]; rfl))))) (ih38 (_) (by omega) (i + 1) (by omega) rfl)
      exact ab_pm8 mm5 (mmv6 (congrArg Value.int (by rfl))) (mmv7 (congrArg Value.int (by rfl))) (mmv4 (congrArg Value.long (by rfl))) (mmv3 (congrArg Value.int (by rfl))) (mmv2 (congrArg Value.int (by rfl))) (mmv1 (congrArg Value.int (by rfl))) (mmv0 (congrArg Value.int (by rfl))) (L38 _ 0 (by omega) rfl)
    ·
      refine ab_iconst (v := (-1)) hX dX12_lie_17 (by decide) ?_
      exact ab_ireturn hX hF dX12_lie_18 rfl (by rfl) (congrArg some (congrArg Value.int (by first | rfl | (simp only [lieM, lieP, h_1, hjc, h_2, ↓reduceIte, Bool.false_eq_true]; done) | (simp only [lieM, lieP, h_1, hjc, h_2, ↓reduceIte, Bool.false_eq_true]; rfl) | (unfold lieM; (repeat' split) <;> first | rfl | contradiction | (simp_all; done))))) (by rfl)
theorem cm_X12_twoLies {G : ab_G} (hG : ab_GG G) {A : List ab_E} {s : MS} {B : List ab_E} (hA : A.length = 42) {one : Int32} {other : Int32} {nl nw ns : Nat} (hI : mI s nl nw ns)  : ab_CM G mX12_twoLies [.ref 42, .int one, .int other] (mH A s B) (some (.int (twoM s nl ns one other))) (mH A s B) := by
  refine ab_meth (l0 := [(0, .ref 42), (1, .int one), (2, .int other)]) hG (by decide +kernel) rfl (Nat.le_of_ble_eq_true rfl) (Nat.le_refl _) (Nat.le_refl _) (fun X hX hF => ?_)
  obtain ⟨hl, hl6, hw, hw5, hs, hs10⟩ := id hI
  refine ab_aload_n hX dX12_twoLies_0 mm0 ?_
  refine ab_iload_n hX dX12_twoLies_1 mm1 ?_
  refine ab_callV1r hX dX12_twoLies_2 (mg_o hA) ss_X12_twoLies_104 (cm_X12_isWitness hG hA) (Nat.le_of_ble_eq_true rfl) ?_
  refine ab_ifeqB (tgt := 21) hX dX12_twoLies_5 (by decide) (fun h_1 => ?_) (fun h_1 => ?_)
  ·
    refine ab_iconst (v := (-1)) hX dX12_twoLies_21 (by decide) ?_
    exact ab_ireturn hX hF dX12_twoLies_22 rfl (by rfl) (congrArg some (congrArg Value.int (by first | rfl | (simp only [twoM, h_1, ↓reduceIte, Bool.false_eq_true]; done) | (simp only [twoM, h_1, ↓reduceIte, Bool.false_eq_true]; rfl) | (unfold twoM; (repeat' split) <;> first | rfl | contradiction | (simp_all; done))))) (by rfl)
  ·
    obtain ⟨j, hj, rfl⟩ := iw_ex (n := nw) (by rw [hw]) (by omega) h_1
    have hjc := tn_nI (j := j) (by omega)
    refine ab_aload_n hX dX12_twoLies_8 mm0 ?_
    refine ab_iload_n hX dX12_twoLies_9 mm2 ?_
    refine ab_callV1r hX dX12_twoLies_10 (mg_o hA) ss_X12_twoLies_104 (cm_X12_isWitness hG hA) (Nat.le_of_ble_eq_true rfl) ?_
    refine ab_ifeqB (tgt := 21) hX dX12_twoLies_13 (by decide) (fun h_2 => ?_) (fun h_2 => ?_)
    ·
      refine ab_iconst (v := (-1)) hX dX12_twoLies_21 (by decide) ?_
      exact ab_ireturn hX hF dX12_twoLies_22 rfl (by rfl) (congrArg some (congrArg Value.int (by first | rfl | (simp only [twoM, h_1, hjc, h_2, ↓reduceIte, Bool.false_eq_true]; done) | (simp only [twoM, h_1, hjc, h_2, ↓reduceIte, Bool.false_eq_true]; rfl) | (unfold twoM; (repeat' split) <;> first | rfl | contradiction | (simp_all; done))))) (by rfl)
    ·
      obtain ⟨j2, hj2, rfl⟩ := iw_ex (n := nw) (by rw [hw]) (by omega) h_2
      have hj2c := tn_nI (j := j2) (by omega)
      refine ab_iload_n hX dX12_twoLies_16 mm1 ?_
      refine ab_iload_n hX dX12_twoLies_17 mm2 ?_
      refine ab_icmpne (tgt := 23) hX dX12_twoLies_18 (by decide) (fun h_3 => ?_) (fun h_3 => ?_)
      ·
        refine ab_aload_n hX dX12_twoLies_23 mm0 ?_
        refine ab_callV0r hX dX12_twoLies_24 (mg_o hA) ss_X12_twoLies_153 (cm_X12_left hG hA hI) (Nat.le_of_ble_eq_true rfl) ?_
        refine ab_lstore_n hX dX12_twoLies_27 rfl (by decide) rfl ?_
        refine ab_bipush (v := (-4)) hX dX12_twoLies_28 (by decide) ?_
        refine ab_istore hX dX12_twoLies_30 (by decide) rfl ?_
        refine ab_iconst (v := 0) hX dX12_twoLies_32 (by decide) ?_
        refine ab_istore hX dX12_twoLies_33 (by decide) rfl ?_
        have L35 : ∀ (k35_ : Nat) (i : Nat) (hi_ : i ≤ 288), k35_ = 288 - i → ab_WA G mX12_twoLies X 35 [(0, .ref 42), (1, .int (nI j)), (2, .int (nI j2)), (3, .long (leftA s nl ns)), (5, .int (acc (tl1F s (leftA s nl ns) j j2) (-4) i)), (6, .int (nI i))] [] (mH A s B) := by
          intro k35_
          induction k35_ using Nat.strongRecOn with
          | _ k35_ ih35 =>
            intro i hi_ hk35_
            refine ab_iload hX dX12_twoLies_35 mm5 ?_
            refine ab_sipush (v := 288) hX dX12_twoLies_37 (by decide) ?_
            refine ab_icmpge (tgt := 136) hX dX12_twoLies_40 (by decide) (fun h_4 => ?_) (fun h_4 => ?_)
            ·
              have hx_ := ctE (N := 288) h_4 (by rfl) (by omega) (by omega)
              obtain rfl : 288 = i := by omega
              refine ab_iload hX dX12_twoLies_136 mm4 ?_
              exact ab_ireturn hX hF dX12_twoLies_138 rfl (by rfl) (congrArg some (congrArg Value.int (by first | rfl | (simp only [twoM, h_1, hjc, h_2, hj2c, h_3, h_4, ↓reduceIte, Bool.false_eq_true]; done) | (simp only [twoM, h_1, hjc, h_2, hj2c, h_3, h_4, ↓reduceIte, Bool.false_eq_true]; rfl) | (unfold twoM; (repeat' split) <;> first | rfl | contradiction | (simp_all; done))))) (by rfl)
            ·
              have hlti_ := ctL (N := 288) h_4 (by rfl) (by omega) (by omega)
              refine ab_aload_n hX dX12_twoLies_43 mm0 ?_
              refine ab_iload hX dX12_twoLies_44 mm5 ?_
              refine ab_callS1r hX dX12_twoLies_46 ss_X12_twoLies_190 (cm_X12_plainSaying hG) (Nat.le_of_ble_eq_true rfl) ?_
              refine ab_iload_n hX dX12_twoLies_49 mm1 ?_
              refine ab_callV2r hX dX12_twoLies_50 (mg_o hA) ss_X12_twoLies_193 (cm_X12_isLie hG hA rfl (by omega)) (Nat.le_of_ble_eq_true rfl) ?_
              refine ab_ifneB (tgt := 59) hX dX12_twoLies_53 (by decide) (fun h_5 => ?_) (fun h_5 => ?_)
              ·
                refine ab_lload_n hX dX12_twoLies_59 mm3 ?_
                refine ab_iload hX dX12_twoLies_60 mm5 ?_
                refine ab_callS1r hX dX12_twoLies_62 ss_X12_twoLies_190 (cm_X12_plainSaying hG) (Nat.le_of_ble_eq_true rfl) ?_
                refine ab_callS1r hX dX12_twoLies_65 ss_X12_twoLies_140 (cm_X12_worldsOf hG) (Nat.le_of_ble_eq_true rfl) ?_
                refine ab_ldc2 hX dX12_twoLies_68 tw_1227 ?_
                refine ab_lxor hX dX12_twoLies_71 ?_
                refine ab_land hX dX12_twoLies_72 ?_
                refine ab_lstore hX dX12_twoLies_73 (by decide) rfl ?_
                refine ab_iconst (v := 0) hX dX12_twoLies_75 (by decide) ?_
                refine ab_istore hX dX12_twoLies_76 (by decide) rfl ?_
                have L78 : ∀ (k78_ : Nat) (k : Nat) (hk_ : k ≤ 288), k78_ = 288 - k → ab_WA G mX12_twoLies X 78 [(0, .ref 42), (1, .int (nI j)), (2, .int (nI j2)), (3, .long (leftA s nl ns)), (5, .int (acc (tl2F s (leftA s nl ns &&& (worldsN (psI (nI i)) 64 ^^^ (-1))) j2) (acc (tl1F s (leftA s nl ns) j j2) (-4) i) k)), (6, .int (nI i)), (7, .long (leftA s nl ns &&& (worldsN (psI (nI i)) 64 ^^^ (-1)))), (9, .int (nI k))] [] (mH A s B) := by
                  intro k78_
                  induction k78_ using Nat.strongRecOn with
                  | _ k78_ ih78 =>
                    intro k hk_ hk78_
                    refine ab_iload hX dX12_twoLies_78 mm7 ?_
                    refine ab_sipush (v := 288) hX dX12_twoLies_80 (by decide) ?_
                    refine ab_icmpge (tgt := 130) hX dX12_twoLies_83 (by decide) (fun h_6 => ?_) (fun h_6 => ?_)
                    ·
                      have hx_ := ctE (N := 288) h_6 (by rfl) (by omega) (by omega)
                      obtain rfl : 288 = k := by omega
                      refine ab_iinc hX dX12_twoLies_130 mm5 rfl (by decide) rfl ?_
                      refine ab_goto (tgt := 35) hX dX12_twoLies_133 (by decide) ?_
                      exact ab_pm6 mm1 (mmv2 (congrArg Value.int (by first | exact (nI_1 _).symm | rfl | (rw [acc_s]; first | rfl | (simp only [tl1F, h_1, hjc, h_2, hj2c, h_3, h_4, h_5, h_6, ↓reduceIte, Bool.false_eq_true]; done) | (simp only [tl1F, h_1, hjc, h_2, hj2c, h_3, h_4, h_5, h_6, ↓reduceIte, Bool.false_eq_true]; rfl))))) (mmv3 (congrArg Value.int (by first | exact (nI_1 _).symm | rfl | (rw [acc_s]; first | rfl | (simp only [tl1F, h_1, hjc, h_2, hj2c, h_3, h_4, h_5, h_6, ↓reduceIte, Bool.false_eq_true]; done) | (simp only [tl1F, h_1, hjc, h_2, hj2c, h_3, h_4, h_5, h_6, ↓reduceIte, Bool.false_eq_true]; rfl))))) (mmv4 (congrArg Value.long (by first | exact (nI_1 _).symm | rfl | (rw [acc_s]; first | rfl | (simp only [tl1F, h_1, hjc, h_2, hj2c, h_3, h_4, h_5, h_6, ↓reduceIte, Bool.false_eq_true]; done) | (simp only [tl1F, h_1, hjc, h_2, hj2c, h_3, h_4, h_5, h_6, ↓reduceIte, Bool.false_eq_true]; rfl))))) (mmv5 (congrArg Value.int (by first | exact (nI_1 _).symm | rfl | (rw [acc_s]; first | rfl | (simp only [tl1F, h_1, hjc, h_2, hj2c, h_3, h_4, h_5, h_6, ↓reduceIte, Bool.false_eq_true]; done) | (simp only [tl1F, h_1, hjc, h_2, hj2c, h_3, h_4, h_5, h_6, ↓reduceIte, Bool.false_eq_true]; rfl))))) (mmv0 (congrArg Value.int (by first | exact (nI_1 _).symm | rfl | (rw [acc_s]; first | rfl | (simp only [tl1F, h_1, hjc, h_2, hj2c, h_3, h_4, h_5, h_6, ↓reduceIte, Bool.false_eq_true]; done) | (simp only [tl1F, h_1, hjc, h_2, hj2c, h_3, h_4, h_5, h_6, ↓reduceIte, Bool.false_eq_true]; rfl))))) (ih35 (_) (by omega) (i + 1) (by omega) rfl)
                    ·
                      have hltk_ := ctL (N := 288) h_6 (by rfl) (by omega) (by omega)
                      refine ab_aload_n hX dX12_twoLies_86 mm0 ?_
                      refine ab_iload hX dX12_twoLies_87 mm7 ?_
                      refine ab_callS1r hX dX12_twoLies_89 ss_X12_twoLies_190 (cm_X12_plainSaying hG) (Nat.le_of_ble_eq_true rfl) ?_
                      refine ab_iload_n hX dX12_twoLies_92 mm2 ?_
                      refine ab_callV2r hX dX12_twoLies_93 (mg_o hA) ss_X12_twoLies_193 (cm_X12_isLie hG hA rfl (by omega)) (Nat.le_of_ble_eq_true rfl) ?_
                      refine ab_ifeqB (tgt := 124) hX dX12_twoLies_96 (by decide) (fun h_7 => ?_) (fun h_7 => ?_)
                      ·
                        refine ab_iinc hX dX12_twoLies_124 mm7 rfl (by decide) rfl ?_
                        refine ab_goto (tgt := 78) hX dX12_twoLies_127 (by decide) ?_
                        exact ab_pm8 mm1 (mmv2 (congrArg Value.int (by first | exact (nI_1 _).symm | rfl | (rw [acc_s]; first | rfl | (simp only [tl2F, h_1, hjc, h_2, hj2c, h_3, h_4, h_5, h_6, h_7, ↓reduceIte, Bool.false_eq_true]; done) | (simp only [tl2F, h_1, hjc, h_2, hj2c, h_3, h_4, h_5, h_6, h_7, ↓reduceIte, Bool.false_eq_true]; rfl))))) (mmv3 (congrArg Value.int (by first | exact (nI_1 _).symm | rfl | (rw [acc_s]; first | rfl | (simp only [tl2F, h_1, hjc, h_2, hj2c, h_3, h_4, h_5, h_6, h_7, ↓reduceIte, Bool.false_eq_true]; done) | (simp only [tl2F, h_1, hjc, h_2, hj2c, h_3, h_4, h_5, h_6, h_7, ↓reduceIte, Bool.false_eq_true]; rfl))))) (mmv4 (congrArg Value.long (by first | exact (nI_1 _).symm | rfl | (rw [acc_s]; first | rfl | (simp only [tl2F, h_1, hjc, h_2, hj2c, h_3, h_4, h_5, h_6, h_7, ↓reduceIte, Bool.false_eq_true]; done) | (simp only [tl2F, h_1, hjc, h_2, hj2c, h_3, h_4, h_5, h_6, h_7, ↓reduceIte, Bool.false_eq_true]; rfl))))) (mmv5 (congrArg Value.int (by first | exact (nI_1 _).symm | rfl | (rw [acc_s]; first | rfl | (simp only [tl2F, h_1, hjc, h_2, hj2c, h_3, h_4, h_5, h_6, h_7, ↓reduceIte, Bool.false_eq_true]; done) | (simp only [tl2F, h_1, hjc, h_2, hj2c, h_3, h_4, h_5, h_6, h_7, ↓reduceIte, Bool.false_eq_true]; rfl))))) (mmv6 (congrArg Value.int (by first | exact (nI_1 _).symm | rfl | (rw [acc_s]; first | rfl | (simp only [tl2F, h_1, hjc, h_2, hj2c, h_3, h_4, h_5, h_6, h_7, ↓reduceIte, Bool.false_eq_true]; done) | (simp only [tl2F, h_1, hjc, h_2, hj2c, h_3, h_4, h_5, h_6, h_7, ↓reduceIte, Bool.false_eq_true]; rfl))))) (mmv7 (congrArg Value.long (by first | exact (nI_1 _).symm | rfl | (rw [acc_s]; first | rfl | (simp only [tl2F, h_1, hjc, h_2, hj2c, h_3, h_4, h_5, h_6, h_7, ↓reduceIte, Bool.false_eq_true]; done) | (simp only [tl2F, h_1, hjc, h_2, hj2c, h_3, h_4, h_5, h_6, h_7, ↓reduceIte, Bool.false_eq_true]; rfl))))) (mmv0 (congrArg Value.int (by first | exact (nI_1 _).symm | rfl | (rw [acc_s]; first | rfl | (simp only [tl2F, h_1, hjc, h_2, hj2c, h_3, h_4, h_5, h_6, h_7, ↓reduceIte, Bool.false_eq_true]; done) | (simp only [tl2F, h_1, hjc, h_2, hj2c, h_3, h_4, h_5, h_6, h_7, ↓reduceIte, Bool.false_eq_true]; rfl))))) (ih78 (_) (by omega) (k + 1) (by omega) rfl)
                      ·
                        refine ab_iload hX dX12_twoLies_99 mm4 ?_
                        refine ab_lload hX dX12_twoLies_101 mm6 ?_
                        refine ab_iload hX dX12_twoLies_103 mm7 ?_
                        refine ab_callS1r hX dX12_twoLies_105 ss_X12_twoLies_190 (cm_X12_plainSaying hG) (Nat.le_of_ble_eq_true rfl) ?_
                        refine ab_callS1r hX dX12_twoLies_108 ss_X12_twoLies_140 (cm_X12_worldsOf hG) (Nat.le_of_ble_eq_true rfl) ?_
                        refine ab_ldc2 hX dX12_twoLies_111 tw_1227 ?_
                        refine ab_lxor hX dX12_twoLies_114 ?_
                        refine ab_land hX dX12_twoLies_115 ?_
                        refine ab_callS1r hX dX12_twoLies_116 ss_X12_twoLies_156 (cm_J13_bitCount_95d88 hG) (Nat.le_of_ble_eq_true rfl) ?_
                        refine ab_mmax hX dX12_twoLies_119 tw_1312 (by decide) (Nat.le_of_ble_eq_true rfl) ?_
                        refine ab_istore hX dX12_twoLies_122 (by decide) rfl ?_
                        refine ab_iinc hX dX12_twoLies_124 mm7 rfl (by decide) rfl ?_
                        refine ab_goto (tgt := 78) hX dX12_twoLies_127 (by decide) ?_
                        exact ab_pm8 mm2 (mmv3 (congrArg Value.int (by first | exact (nI_1 _).symm | rfl | (rw [acc_s]; first | rfl | (simp only [tl2F, h_1, hjc, h_2, hj2c, h_3, h_4, h_5, h_6, h_7, ↓reduceIte, Bool.false_eq_true]; done) | (simp only [tl2F, h_1, hjc, h_2, hj2c, h_3, h_4, h_5, h_6, h_7, ↓reduceIte, Bool.false_eq_true]; rfl))))) (mmv4 (congrArg Value.int (by first | exact (nI_1 _).symm | rfl | (rw [acc_s]; first | rfl | (simp only [tl2F, h_1, hjc, h_2, hj2c, h_3, h_4, h_5, h_6, h_7, ↓reduceIte, Bool.false_eq_true]; done) | (simp only [tl2F, h_1, hjc, h_2, hj2c, h_3, h_4, h_5, h_6, h_7, ↓reduceIte, Bool.false_eq_true]; rfl))))) (mmv5 (congrArg Value.long (by first | exact (nI_1 _).symm | rfl | (rw [acc_s]; first | rfl | (simp only [tl2F, h_1, hjc, h_2, hj2c, h_3, h_4, h_5, h_6, h_7, ↓reduceIte, Bool.false_eq_true]; done) | (simp only [tl2F, h_1, hjc, h_2, hj2c, h_3, h_4, h_5, h_6, h_7, ↓reduceIte, Bool.false_eq_true]; rfl))))) (mmv1 (congrArg Value.int (by first | exact (nI_1 _).symm | rfl | (rw [acc_s]; first | rfl | (simp only [tl2F, h_1, hjc, h_2, hj2c, h_3, h_4, h_5, h_6, h_7, ↓reduceIte, Bool.false_eq_true]; done) | (simp only [tl2F, h_1, hjc, h_2, hj2c, h_3, h_4, h_5, h_6, h_7, ↓reduceIte, Bool.false_eq_true]; rfl))))) (mmv6 (congrArg Value.int (by first | exact (nI_1 _).symm | rfl | (rw [acc_s]; first | rfl | (simp only [tl2F, h_1, hjc, h_2, hj2c, h_3, h_4, h_5, h_6, h_7, ↓reduceIte, Bool.false_eq_true]; done) | (simp only [tl2F, h_1, hjc, h_2, hj2c, h_3, h_4, h_5, h_6, h_7, ↓reduceIte, Bool.false_eq_true]; rfl))))) (mmv7 (congrArg Value.long (by first | exact (nI_1 _).symm | rfl | (rw [acc_s]; first | rfl | (simp only [tl2F, h_1, hjc, h_2, hj2c, h_3, h_4, h_5, h_6, h_7, ↓reduceIte, Bool.false_eq_true]; done) | (simp only [tl2F, h_1, hjc, h_2, hj2c, h_3, h_4, h_5, h_6, h_7, ↓reduceIte, Bool.false_eq_true]; rfl))))) (mmv0 (congrArg Value.int (by first | exact (nI_1 _).symm | rfl | (rw [acc_s]; first | rfl | (simp only [tl2F, h_1, hjc, h_2, hj2c, h_3, h_4, h_5, h_6, h_7, ↓reduceIte, Bool.false_eq_true]; done) | (simp only [tl2F, h_1, hjc, h_2, hj2c, h_3, h_4, h_5, h_6, h_7, ↓reduceIte, Bool.false_eq_true]; rfl))))) (ih78 (_) (by omega) (k + 1) (by omega) rfl)
                exact ab_pm8 mm2 (mmv3 (congrArg Value.int (by rfl))) (mmv4 (congrArg Value.int (by rfl))) (mmv5 (congrArg Value.long (by rfl))) (mmv6 (congrArg Value.int (by rfl))) (mmv7 (congrArg Value.int (by rfl))) (mmv1 (congrArg Value.long (by rfl))) (mmv0 (congrArg Value.int (by rfl))) (L78 _ 0 (by omega) rfl)
              ·
                refine ab_goto (tgt := 130) hX dX12_twoLies_56 (by decide) ?_
                refine ab_iinc hX dX12_twoLies_130 mm5 rfl (by decide) rfl ?_
                refine ab_goto (tgt := 35) hX dX12_twoLies_133 (by decide) ?_
                exact ab_pm6 mm1 (mmv2 (congrArg Value.int (by first | exact (nI_1 _).symm | rfl | (rw [acc_s]; first | rfl | (simp only [tl1F, h_1, hjc, h_2, hj2c, h_3, h_4, h_5, ↓reduceIte, Bool.false_eq_true]; done) | (simp only [tl1F, h_1, hjc, h_2, hj2c, h_3, h_4, h_5, ↓reduceIte, Bool.false_eq_true]; rfl))))) (mmv3 (congrArg Value.int (by first | exact (nI_1 _).symm | rfl | (rw [acc_s]; first | rfl | (simp only [tl1F, h_1, hjc, h_2, hj2c, h_3, h_4, h_5, ↓reduceIte, Bool.false_eq_true]; done) | (simp only [tl1F, h_1, hjc, h_2, hj2c, h_3, h_4, h_5, ↓reduceIte, Bool.false_eq_true]; rfl))))) (mmv4 (congrArg Value.long (by first | exact (nI_1 _).symm | rfl | (rw [acc_s]; first | rfl | (simp only [tl1F, h_1, hjc, h_2, hj2c, h_3, h_4, h_5, ↓reduceIte, Bool.false_eq_true]; done) | (simp only [tl1F, h_1, hjc, h_2, hj2c, h_3, h_4, h_5, ↓reduceIte, Bool.false_eq_true]; rfl))))) (mmv5 (congrArg Value.int (by first | exact (nI_1 _).symm | rfl | (rw [acc_s]; first | rfl | (simp only [tl1F, h_1, hjc, h_2, hj2c, h_3, h_4, h_5, ↓reduceIte, Bool.false_eq_true]; done) | (simp only [tl1F, h_1, hjc, h_2, hj2c, h_3, h_4, h_5, ↓reduceIte, Bool.false_eq_true]; rfl))))) (mmv0 (congrArg Value.int (by first | exact (nI_1 _).symm | rfl | (rw [acc_s]; first | rfl | (simp only [tl1F, h_1, hjc, h_2, hj2c, h_3, h_4, h_5, ↓reduceIte, Bool.false_eq_true]; done) | (simp only [tl1F, h_1, hjc, h_2, hj2c, h_3, h_4, h_5, ↓reduceIte, Bool.false_eq_true]; rfl))))) (ih35 (_) (by omega) (i + 1) (by omega) rfl)
        exact ab_pm6 mm3 (mmv4 (congrArg Value.int (by rfl))) (mmv5 (congrArg Value.int (by rfl))) (mmv2 (congrArg Value.long (by rfl))) (mmv1 (congrArg Value.int (by rfl))) (mmv0 (congrArg Value.int (by rfl))) (L35 _ 0 (by omega) rfl)
      ·
        refine ab_iconst (v := (-1)) hX dX12_twoLies_21 (by decide) ?_
        exact ab_ireturn hX hF dX12_twoLies_22 rfl (by rfl) (congrArg some (congrArg Value.int (by first | rfl | (simp only [twoM, h_1, hjc, h_2, hj2c, h_3, ↓reduceIte, Bool.false_eq_true]; done) | (simp only [twoM, h_1, hjc, h_2, hj2c, h_3, ↓reduceIte, Bool.false_eq_true]; rfl) | (unfold twoM; (repeat' split) <;> first | rfl | contradiction | (simp_all; done))))) (by rfl)
theorem cm_X12_noSaying {G : ab_G} (hG : ab_GG G) {A : List ab_E} {s : MS} {B : List ab_E} (hA : A.length = 42) {d : Int32} {j : Nat} (hj : d = nI j) (hj2 : j < 8) : ab_CM G mX12_noSaying [.ref 42, .int d] (mH A s B) (some (.int (noS s j))) (mH A s B) := by
  refine ab_meth (l0 := [(0, .ref 42), (1, .int d)]) hG (by decide +kernel) rfl (Nat.le_of_ble_eq_true rfl) (Nat.le_refl _) (Nat.le_refl _) (fun X hX hF => ?_)
  refine ab_aload_n hX dX12_noSaying_0 mm0 ?_
  refine ab_getfield hX dX12_noSaying_1 (fs_X12_22_13 rfl) (mg_o hA) rfl ?_
  refine ab_iload_n hX dX12_noSaying_4 mm1 ?_
  refine ab_iald (i := j) hX dX12_noSaying_5 (mg_8 hA) hj hj2 (by decide) ?_
  refine ab_ifne (tgt := 14) hX dX12_noSaying_6 (by decide) (fun h_1 => ?_) (fun h_1 => ?_)
  ·
    refine ab_aload_n hX dX12_noSaying_14 mm0 ?_
    refine ab_getfield hX dX12_noSaying_15 (fs_X12_22_13 rfl) (mg_o hA) rfl ?_
    refine ab_iload_n hX dX12_noSaying_18 mm1 ?_
    refine ab_iald (i := j) hX dX12_noSaying_19 (mg_8 hA) hj hj2 (by decide) ?_
    refine ab_iconst (v := 2) hX dX12_noSaying_20 (by decide) ?_
    refine ab_icmpne (tgt := 29) hX dX12_noSaying_21 (by decide) (fun h_2 => ?_) (fun h_2 => ?_)
    ·
      refine ab_iconst (v := 0) hX dX12_noSaying_29 (by decide) ?_
      exact ab_ireturn hX hF dX12_noSaying_30 rfl (by rfl) (congrArg some (congrArg Value.int (by first | rfl | (simp only [noS, h_1, h_2, ↓reduceIte, Bool.false_eq_true]; done) | (simp only [noS, h_1, h_2, ↓reduceIte, Bool.false_eq_true]; rfl) | (unfold noS; (repeat' split) <;> first | rfl | contradiction | (simp_all; done))))) (by rfl)
    ·
      refine ab_bipush (v := (-12)) hX dX12_noSaying_24 (by decide) ?_
      refine ab_goto (tgt := 30) hX dX12_noSaying_26 (by decide) ?_
      exact ab_ireturn hX hF dX12_noSaying_30 rfl (by rfl) (congrArg some (congrArg Value.int (by first | rfl | (simp only [noS, h_1, h_2, ↓reduceIte, Bool.false_eq_true]; done) | (simp only [noS, h_1, h_2, ↓reduceIte, Bool.false_eq_true]; rfl) | (unfold noS; (repeat' split) <;> first | rfl | contradiction | (simp_all; done))))) (by rfl)
  ·
    refine ab_bipush (v := (-11)) hX dX12_noSaying_9 (by decide) ?_
    refine ab_goto (tgt := 30) hX dX12_noSaying_11 (by decide) ?_
    exact ab_ireturn hX hF dX12_noSaying_30 rfl (by rfl) (congrArg some (congrArg Value.int (by first | rfl | (simp only [noS, h_1, ↓reduceIte, Bool.false_eq_true]; done) | (simp only [noS, h_1, ↓reduceIte, Bool.false_eq_true]; rfl) | (unfold noS; (repeat' split) <;> first | rfl | contradiction | (simp_all; done))))) (by rfl)
theorem cm_X12_noRow {G : ab_G} (hG : ab_GG G) {A : List ab_E} {s : MS} {B : List ab_E} (hA : A.length = 42) {d : Int32} {j : Nat} (hj : d = nI j) (hj2 : j < 8) : ab_CM G mX12_noRow [.ref 42, .int d] (mH A s B) (some (.int (noR s j))) (mH A s B) := by
  refine ab_meth (l0 := [(0, .ref 42), (1, .int d)]) hG (by decide +kernel) rfl (Nat.le_of_ble_eq_true rfl) (Nat.le_refl _) (Nat.le_refl _) (fun X hX hF => ?_)
  refine ab_aload_n hX dX12_noRow_0 mm0 ?_
  refine ab_getfield hX dX12_noRow_1 (fs_X12_22_13 rfl) (mg_o hA) rfl ?_
  refine ab_iload_n hX dX12_noRow_4 mm1 ?_
  refine ab_iald (i := j) hX dX12_noRow_5 (mg_8 hA) hj hj2 (by decide) ?_
  refine ab_ifne (tgt := 14) hX dX12_noRow_6 (by decide) (fun h_1 => ?_) (fun h_1 => ?_)
  ·
    refine ab_aload_n hX dX12_noRow_14 mm0 ?_
    refine ab_getfield hX dX12_noRow_15 (fs_X12_22_13 rfl) (mg_o hA) rfl ?_
    refine ab_iload_n hX dX12_noRow_18 mm1 ?_
    refine ab_iald (i := j) hX dX12_noRow_19 (mg_8 hA) hj hj2 (by decide) ?_
    refine ab_iconst (v := 1) hX dX12_noRow_20 (by decide) ?_
    refine ab_icmpne (tgt := 29) hX dX12_noRow_21 (by decide) (fun h_2 => ?_) (fun h_2 => ?_)
    ·
      refine ab_iconst (v := 0) hX dX12_noRow_29 (by decide) ?_
      exact ab_ireturn hX hF dX12_noRow_30 rfl (by rfl) (congrArg some (congrArg Value.int (by first | rfl | (simp only [noR, h_1, h_2, ↓reduceIte, Bool.false_eq_true]; done) | (simp only [noR, h_1, h_2, ↓reduceIte, Bool.false_eq_true]; rfl) | (unfold noR; (repeat' split) <;> first | rfl | contradiction | (simp_all; done))))) (by rfl)
    ·
      refine ab_bipush (v := (-12)) hX dX12_noRow_24 (by decide) ?_
      refine ab_goto (tgt := 30) hX dX12_noRow_26 (by decide) ?_
      exact ab_ireturn hX hF dX12_noRow_30 rfl (by rfl) (congrArg some (congrArg Value.int (by first | rfl | (simp only [noR, h_1, h_2, ↓reduceIte, Bool.false_eq_true]; done) | (simp only [noR, h_1, h_2, ↓reduceIte, Bool.false_eq_true]; rfl) | (unfold noR; (repeat' split) <;> first | rfl | contradiction | (simp_all; done))))) (by rfl)
  ·
    refine ab_bipush (v := (-11)) hX dX12_noRow_9 (by decide) ?_
    refine ab_goto (tgt := 30) hX dX12_noRow_11 (by decide) ?_
    exact ab_ireturn hX hF dX12_noRow_30 rfl (by rfl) (congrArg some (congrArg Value.int (by first | rfl | (simp only [noR, h_1, ↓reduceIte, Bool.false_eq_true]; done) | (simp only [noR, h_1, ↓reduceIte, Bool.false_eq_true]; rfl) | (unfold noR; (repeat' split) <;> first | rfl | contradiction | (simp_all; done))))) (by rfl)
theorem cm_X12_onShelf {G : ab_G} (hG : ab_GG G) {A : List ab_E} {s : MS} {B : List ab_E} (hA : A.length = 42) {d : Int32} {a : Int32} {b : Int32} {j : Nat} (hj : d = nI j) (hj2 : j < 8) : ab_CM G mX12_onShelf [.ref 42, .int d, .int a, .int b] (mH A s B) (some (.int (onS s j a b))) (mH A s B) := by
  refine ab_meth (l0 := [(0, .ref 42), (1, .int d), (2, .int a), (3, .int b)]) hG (by decide +kernel) rfl (Nat.le_of_ble_eq_true rfl) (Nat.le_refl _) (Nat.le_refl _) (fun X hX hF => ?_)
  refine ab_aload_n hX dX12_onShelf_0 mm0 ?_
  refine ab_getfield hX dX12_onShelf_1 (fs_X12_25_13 rfl) (mg_o hA) rfl ?_
  refine ab_iload_n hX dX12_onShelf_4 mm1 ?_
  refine ab_iald (i := j) hX dX12_onShelf_5 (mg_9 hA) hj hj2 (by decide) ?_
  refine ab_aload_n hX dX12_onShelf_6 mm0 ?_
  refine ab_getfield hX dX12_onShelf_7 (fs_X12_28_13 rfl) (mg_o hA) rfl ?_
  refine ab_iload_n hX dX12_onShelf_10 mm1 ?_
  refine ab_iald (i := j) hX dX12_onShelf_11 (mg_10 hA) hj hj2 (by decide) ?_
  refine ab_iload_n hX dX12_onShelf_12 mm2 ?_
  refine ab_iload_n hX dX12_onShelf_13 mm3 ?_
  refine ab_callS4r hX dX12_onShelf_14 ss_X12_onShelf_81 (cm_X12_made hG) (Nat.le_of_ble_eq_true rfl) ?_
  exact ab_ireturn hX hF dX12_onShelf_17 rfl (by rfl) (congrArg some (congrArg Value.int (by rfl))) (by rfl)
theorem cm_X12_leastOf {G : ab_G} (hG : ab_GG G) {A : List ab_E} {s : MS} {B : List ab_E} (hA : A.length = 42) {d : Int32} {j : Nat} (hj : d = nI j) (hj2 : j < 8) : ab_CM G mX12_leastOf [.ref 42, .int d] (mH A s B) (some (.int (lstS s j))) (mH A s B) := by
  refine ab_meth (l0 := [(0, .ref 42), (1, .int d)]) hG (by decide +kernel) rfl (Nat.le_of_ble_eq_true rfl) (Nat.le_refl _) (Nat.le_refl _) (fun X hX hF => ?_)
  refine ab_aload_n hX dX12_leastOf_0 mm0 ?_
  refine ab_getfield hX dX12_leastOf_1 (fs_X12_25_13 rfl) (mg_o hA) rfl ?_
  refine ab_iload_n hX dX12_leastOf_4 mm1 ?_
  refine ab_iald (i := j) hX dX12_leastOf_5 (mg_9 hA) hj hj2 (by decide) ?_
  refine ab_ifne (tgt := 14) hX dX12_leastOf_6 (by decide) (fun h_1 => ?_) (fun h_1 => ?_)
  ·
    refine ab_aload_n hX dX12_leastOf_14 mm0 ?_
    refine ab_getfield hX dX12_leastOf_15 (fs_X12_25_13 rfl) (mg_o hA) rfl ?_
    refine ab_iload_n hX dX12_leastOf_18 mm1 ?_
    refine ab_iald (i := j) hX dX12_leastOf_19 (mg_9 hA) hj hj2 (by decide) ?_
    refine ab_iconst (v := 1) hX dX12_leastOf_20 (by decide) ?_
    refine ab_icmpne (tgt := 30) hX dX12_leastOf_21 (by decide) (fun h_2 => ?_) (fun h_2 => ?_)
    ·
      refine ab_ldc hX dX12_leastOf_30 tw_1359 ?_
      exact ab_ireturn hX hF dX12_leastOf_32 rfl (by rfl) (congrArg some (congrArg Value.int (by first | rfl | (simp only [lstS, h_1, h_2, ↓reduceIte, Bool.false_eq_true]; done) | (simp only [lstS, h_1, h_2, ↓reduceIte, Bool.false_eq_true]; rfl) | (unfold lstS; (repeat' split) <;> first | rfl | contradiction | (simp_all; done))))) (by rfl)
    ·
      refine ab_sipush (v := (-32768)) hX dX12_leastOf_24 (by decide) ?_
      refine ab_goto (tgt := 32) hX dX12_leastOf_27 (by decide) ?_
      exact ab_ireturn hX hF dX12_leastOf_32 rfl (by rfl) (congrArg some (congrArg Value.int (by first | rfl | (simp only [lstS, h_1, h_2, ↓reduceIte, Bool.false_eq_true]; done) | (simp only [lstS, h_1, h_2, ↓reduceIte, Bool.false_eq_true]; rfl) | (unfold lstS; (repeat' split) <;> first | rfl | contradiction | (simp_all; done))))) (by rfl)
  ·
    refine ab_bipush (v := (-128)) hX dX12_leastOf_9 (by decide) ?_
    refine ab_goto (tgt := 32) hX dX12_leastOf_11 (by decide) ?_
    exact ab_ireturn hX hF dX12_leastOf_32 rfl (by rfl) (congrArg some (congrArg Value.int (by first | rfl | (simp only [lstS, h_1, ↓reduceIte, Bool.false_eq_true]; done) | (simp only [lstS, h_1, ↓reduceIte, Bool.false_eq_true]; rfl) | (unfold lstS; (repeat' split) <;> first | rfl | contradiction | (simp_all; done))))) (by rfl)
theorem cm_X12_costOf {G : ab_G} (hG : ab_GG G) {A : List ab_E} {s : MS} {B : List ab_E} (hA : A.length = 42) {d : Int32} {j : Nat} (hj : d = nI j) (hj2 : j < 8) : ab_CM G mX12_costOf [.ref 42, .int d] (mH A s B) (some (.int (costS s j))) (mH A s B) := by
  refine ab_meth (l0 := [(0, .ref 42), (1, .int d)]) hG (by decide +kernel) rfl (Nat.le_of_ble_eq_true rfl) (Nat.le_refl _) (Nat.le_refl _) (fun X hX hF => ?_)
  refine ab_aload_n hX dX12_costOf_0 mm0 ?_
  refine ab_getfield hX dX12_costOf_1 (fs_X12_25_13 rfl) (mg_o hA) rfl ?_
  refine ab_iload_n hX dX12_costOf_4 mm1 ?_
  refine ab_iald (i := j) hX dX12_costOf_5 (mg_9 hA) hj hj2 (by decide) ?_
  rcases ab_sw0_6 (s.2.1 9 j) with h_1 | h_1 | h_1 | h_1 | h_1 | h_1 | h_1 | h_1
  ·
    refine ab_tsIn (tgt := 48) hX dX12_costOf_6 (by rw [h_1]; decide) (by rw [h_1]; decide) (off := 42) (by rw [h_1]; rfl) (by decide) ?_
    refine ab_iconst (v := 2) hX dX12_costOf_48 (by decide) ?_
    exact ab_ireturn hX hF dX12_costOf_49 rfl (by rfl) (congrArg some (congrArg Value.int (by first | rfl | (simp only [costS, h_1, ↓reduceIte, Bool.false_eq_true]; done) | (simp only [costS, h_1, ↓reduceIte, Bool.false_eq_true]; rfl) | (unfold costS; (repeat' split) <;> first | rfl | contradiction | (simp_all; done))))) (by rfl)
  ·
    refine ab_tsIn (tgt := 50) hX dX12_costOf_6 (by rw [h_1]; decide) (by rw [h_1]; decide) (off := 44) (by rw [h_1]; rfl) (by decide) ?_
    refine ab_iconst (v := 3) hX dX12_costOf_50 (by decide) ?_
    exact ab_ireturn hX hF dX12_costOf_51 rfl (by rfl) (congrArg some (congrArg Value.int (by first | rfl | (simp only [costS, h_1, ↓reduceIte, Bool.false_eq_true]; done) | (simp only [costS, h_1, ↓reduceIte, Bool.false_eq_true]; rfl) | (unfold costS; (repeat' split) <;> first | rfl | contradiction | (simp_all; done))))) (by rfl)
  ·
    refine ab_tsIn (tgt := 52) hX dX12_costOf_6 (by rw [h_1]; decide) (by rw [h_1]; decide) (off := 46) (by rw [h_1]; rfl) (by decide) ?_
    refine ab_iconst (v := 4) hX dX12_costOf_52 (by decide) ?_
    exact ab_ireturn hX hF dX12_costOf_53 rfl (by rfl) (congrArg some (congrArg Value.int (by first | rfl | (simp only [costS, h_1, ↓reduceIte, Bool.false_eq_true]; done) | (simp only [costS, h_1, ↓reduceIte, Bool.false_eq_true]; rfl) | (unfold costS; (repeat' split) <;> first | rfl | contradiction | (simp_all; done))))) (by rfl)
  ·
    refine ab_tsIn (tgt := 54) hX dX12_costOf_6 (by rw [h_1]; decide) (by rw [h_1]; decide) (off := 48) (by rw [h_1]; rfl) (by decide) ?_
    refine ab_bipush (v := 9) hX dX12_costOf_54 (by decide) ?_
    exact ab_ireturn hX hF dX12_costOf_56 rfl (by rfl) (congrArg some (congrArg Value.int (by first | rfl | (simp only [costS, h_1, ↓reduceIte, Bool.false_eq_true]; done) | (simp only [costS, h_1, ↓reduceIte, Bool.false_eq_true]; rfl) | (unfold costS; (repeat' split) <;> first | rfl | contradiction | (simp_all; done))))) (by rfl)
  ·
    refine ab_tsIn (tgt := 57) hX dX12_costOf_6 (by rw [h_1]; decide) (by rw [h_1]; decide) (off := 51) (by rw [h_1]; rfl) (by decide) ?_
    refine ab_bipush (v := 8) hX dX12_costOf_57 (by decide) ?_
    exact ab_ireturn hX hF dX12_costOf_59 rfl (by rfl) (congrArg some (congrArg Value.int (by first | rfl | (simp only [costS, h_1, ↓reduceIte, Bool.false_eq_true]; done) | (simp only [costS, h_1, ↓reduceIte, Bool.false_eq_true]; rfl) | (unfold costS; (repeat' split) <;> first | rfl | contradiction | (simp_all; done))))) (by rfl)
  ·
    refine ab_tsIn (tgt := 60) hX dX12_costOf_6 (by rw [h_1]; decide) (by rw [h_1]; decide) (off := 54) (by rw [h_1]; rfl) (by decide) ?_
    refine ab_iconst (v := 4) hX dX12_costOf_60 (by decide) ?_
    refine ab_aload_n hX dX12_costOf_61 mm0 ?_
    refine ab_getfield hX dX12_costOf_62 (fs_X12_28_13 rfl) (mg_o hA) rfl ?_
    refine ab_iload_n hX dX12_costOf_65 mm1 ?_
    refine ab_iald (i := j) hX dX12_costOf_66 (mg_10 hA) hj hj2 (by decide) ?_
    refine ab_iadd hX dX12_costOf_67 ?_
    exact ab_ireturn hX hF dX12_costOf_68 rfl (by rfl) (congrArg some (congrArg Value.int (by first | rfl | (simp only [costS, h_1, ↓reduceIte, Bool.false_eq_true]; done) | (simp only [costS, h_1, ↓reduceIte, Bool.false_eq_true]; rfl) | (unfold costS; (repeat' split) <;> first | rfl | contradiction | (simp_all; done))))) (by rfl)
  ·
    refine ab_tsIn (tgt := 69) hX dX12_costOf_6 (by rw [h_1]; decide) (by rw [h_1]; decide) (off := 63) (by rw [h_1]; rfl) (by decide) ?_
    refine ab_bipush (v := 30) hX dX12_costOf_69 (by decide) ?_
    exact ab_ireturn hX hF dX12_costOf_71 rfl (by rfl) (congrArg some (congrArg Value.int (by first | rfl | (simp only [costS, h_1, ↓reduceIte, Bool.false_eq_true]; done) | (simp only [costS, h_1, ↓reduceIte, Bool.false_eq_true]; rfl) | (unfold costS; (repeat' split) <;> first | rfl | contradiction | (simp_all; done))))) (by rfl)
  ·
    refine ab_tsOut (tgt := 72) hX dX12_costOf_6 h_1.1 (by decide) ?_
    refine ab_bipush (v := 9) hX dX12_costOf_72 (by decide) ?_
    refine ab_aload_n hX dX12_costOf_74 mm0 ?_
    refine ab_getfield hX dX12_costOf_75 (fs_X12_28_13 rfl) (mg_o hA) rfl ?_
    refine ab_iload_n hX dX12_costOf_78 mm1 ?_
    refine ab_iald (i := j) hX dX12_costOf_79 (mg_10 hA) hj hj2 (by decide) ?_
    refine ab_iadd hX dX12_costOf_80 ?_
    exact ab_ireturn hX hF dX12_costOf_81 rfl (by rfl) (congrArg some (congrArg Value.int (by first | rfl | (simp only [costS, h_1, ↓reduceIte, Bool.false_eq_true]; done) | (simp only [costS, h_1, ↓reduceIte, Bool.false_eq_true]; rfl) | (unfold costS; (repeat' split) <;> first | rfl | contradiction | (simp_all; done))))) (by rfl)
theorem cm_X12_tells {G : ab_G} (hG : ab_GG G) {A : List ab_E} {s : MS} {B : List ab_E} (hA : A.length = 42) {d : Int32} {a : Int32} {b : Int32} {nl nw ns : Nat} (hI : mI s nl nw ns)  : ab_CM G mX12_tells [.ref 42, .int d, .int a, .int b] (mH A s B) (some (.int (tellsM s nl ns d a b))) (mH A s B) := by
  refine ab_meth (l0 := [(0, .ref 42), (1, .int d), (2, .int a), (3, .int b)]) hG (by decide +kernel) rfl (Nat.le_of_ble_eq_true rfl) (Nat.le_refl _) (Nat.le_refl _) (fun X hX hF => ?_)
  obtain ⟨hl, hl6, hw, hw5, hs, hs10⟩ := id hI
  refine ab_iload_n hX dX12_tells_0 mm1 ?_
  refine ab_callS1r hX dX12_tells_1 ss_X12_tells_107 (cm_X12_isShelf hG) (Nat.le_of_ble_eq_true rfl) ?_
  refine ab_ifeqB (tgt := 21) hX dX12_tells_4 (by decide) (fun h_1 => ?_) (fun h_1 => ?_)
  ·
    refine ab_iconst (v := (-1)) hX dX12_tells_21 (by decide) ?_
    exact ab_ireturn hX hF dX12_tells_22 rfl (by rfl) (congrArg some (congrArg Value.int (by first | rfl | (simp only [tellsM, h_1, ↓reduceIte, Bool.false_eq_true]; done) | (simp only [tellsM, h_1, ↓reduceIte, Bool.false_eq_true]; rfl) | (unfold tellsM; (repeat' split) <;> first | rfl | contradiction | (simp_all; done))))) (by rfl)
  ·
    obtain ⟨j, hj, rfl⟩ := iw8 h_1
    have hjc := tn_nI (j := j) (by omega)
    refine ab_iload_n hX dX12_tells_7 mm2 ?_
    refine ab_callS1r hX dX12_tells_8 ss_X12_tells_77 (cm_X12_isFact hG) (Nat.le_of_ble_eq_true rfl) ?_
    refine ab_ifeqB (tgt := 21) hX dX12_tells_11 (by decide) (fun h_2 => ?_) (fun h_2 => ?_)
    ·
      refine ab_iconst (v := (-1)) hX dX12_tells_21 (by decide) ?_
      exact ab_ireturn hX hF dX12_tells_22 rfl (by rfl) (congrArg some (congrArg Value.int (by first | rfl | (simp only [tellsM, h_1, hjc, h_2, ↓reduceIte, Bool.false_eq_true]; done) | (simp only [tellsM, h_1, hjc, h_2, ↓reduceIte, Bool.false_eq_true]; rfl) | (unfold tellsM; (repeat' split) <;> first | rfl | contradiction | (simp_all; done))))) (by rfl)
    ·
      refine ab_iload_n hX dX12_tells_14 mm3 ?_
      refine ab_callS1r hX dX12_tells_15 ss_X12_tells_77 (cm_X12_isFact hG) (Nat.le_of_ble_eq_true rfl) ?_
      refine ab_ifneB (tgt := 23) hX dX12_tells_18 (by decide) (fun h_3 => ?_) (fun h_3 => ?_)
      ·
        refine ab_aload_n hX dX12_tells_23 mm0 ?_
        refine ab_iload_n hX dX12_tells_24 mm1 ?_
        refine ab_callV1r hX dX12_tells_25 (mg_o hA) ss_X12_tells_131 (cm_X12_noSaying hG hA rfl hj) (Nat.le_of_ble_eq_true rfl) ?_
        refine ab_istore hX dX12_tells_28 (by decide) rfl ?_
        refine ab_iload hX dX12_tells_30 mm0 ?_
        refine ab_ifge (tgt := 40) hX dX12_tells_32 (by decide) (fun h_4 => ?_) (fun h_4 => ?_)
        ·
          refine ab_aload_n hX dX12_tells_40 mm1 ?_
          refine ab_callV0r hX dX12_tells_41 (mg_o hA) ss_X12_tells_153 (cm_X12_left hG hA hI) (Nat.le_of_ble_eq_true rfl) ?_
          refine ab_aload_n hX dX12_tells_44 mm1 ?_
          refine ab_iload_n hX dX12_tells_45 mm2 ?_
          refine ab_iload_n hX dX12_tells_46 mm3 ?_
          refine ab_iload_n hX dX12_tells_47 mm4 ?_
          refine ab_callV3r hX dX12_tells_48 (mg_o hA) ss_X12_tells_134 (cm_X12_onShelf hG hA rfl hj) (Nat.le_of_ble_eq_true rfl) ?_
          refine ab_callS1r hX dX12_tells_51 ss_X12_tells_140 (cm_X12_worldsOf hG) (Nat.le_of_ble_eq_true rfl) ?_
          refine ab_land hX dX12_tells_54 ?_
          refine ab_callS1r hX dX12_tells_55 ss_X12_tells_156 (cm_J13_bitCount_95d88 hG) (Nat.le_of_ble_eq_true rfl) ?_
          exact ab_ireturn hX hF dX12_tells_58 rfl (by rfl) (congrArg some (congrArg Value.int (by first | rfl | (simp only [tellsM, h_1, hjc, h_2, h_3, h_4, ↓reduceIte, Bool.false_eq_true]; done) | (simp only [tellsM, h_1, hjc, h_2, h_3, h_4, ↓reduceIte, Bool.false_eq_true]; rfl) | (unfold tellsM; (repeat' split) <;> first | rfl | contradiction | (simp_all; done))))) (by rfl)
        ·
          refine ab_iload hX dX12_tells_35 mm0 ?_
          refine ab_goto (tgt := 58) hX dX12_tells_37 (by decide) ?_
          exact ab_ireturn hX hF dX12_tells_58 rfl (by rfl) (congrArg some (congrArg Value.int (by first | rfl | (simp only [tellsM, h_1, hjc, h_2, h_3, h_4, ↓reduceIte, Bool.false_eq_true]; done) | (simp only [tellsM, h_1, hjc, h_2, h_3, h_4, ↓reduceIte, Bool.false_eq_true]; rfl) | (unfold tellsM; (repeat' split) <;> first | rfl | contradiction | (simp_all; done))))) (by rfl)
      ·
        refine ab_iconst (v := (-1)) hX dX12_tells_21 (by decide) ?_
        exact ab_ireturn hX hF dX12_tells_22 rfl (by rfl) (congrArg some (congrArg Value.int (by first | rfl | (simp only [tellsM, h_1, hjc, h_2, h_3, ↓reduceIte, Bool.false_eq_true]; done) | (simp only [tellsM, h_1, hjc, h_2, h_3, ↓reduceIte, Bool.false_eq_true]; rfl) | (unfold tellsM; (repeat' split) <;> first | rfl | contradiction | (simp_all; done))))) (by rfl)
theorem cm_X12_verdict {G : ab_G} (hG : ab_GG G) {A : List ab_E} {s : MS} {B : List ab_E} (hA : A.length = 42)  {nl nw ns : Nat} (hI : mI s nl nw ns)  : ab_CM G mX12_verdict [.ref 42] (mH A s B) (some (.int (verdictM s ns))) (mH A s B) := by
  refine ab_meth (l0 := [(0, .ref 42)]) hG (by decide +kernel) rfl (Nat.le_of_ble_eq_true rfl) (Nat.le_refl _) (Nat.le_refl _) (fun X hX hF => ?_)
  obtain ⟨hl, hl6, hw, hw5, hs, hs10⟩ := id hI
  refine ab_aload_n hX dX12_verdict_0 mm0 ?_
  refine ab_getfield hX dX12_verdict_1 (fs_X12_61_13 rfl) (mg_o hA) rfl ?_
  refine ab_istore_n hX dX12_verdict_4 rfl (by decide) rfl ?_
  refine ab_iconst (v := 0) hX dX12_verdict_5 (by decide) ?_
  refine ab_istore_n hX dX12_verdict_6 rfl (by decide) rfl ?_
  have L7 : ∀ (k7_ : Nat) (i : Nat) (hi_ : i ≤ ns), k7_ = ns - i → ab_WA G mX12_verdict X 7 [(0, .ref 42), (1, .int (acc (vdF s) (s.1 0) i)), (2, .int (nI i))] [] (mH A s B) := by
    intro k7_
    induction k7_ using Nat.strongRecOn with
    | _ k7_ ih7 =>
      intro i hi_ hk7_
      refine ab_iload_n hX dX12_verdict_7 mm2 ?_
      refine ab_aload_n hX dX12_verdict_8 mm0 ?_
      refine ab_getfield hX dX12_verdict_9 (fs_X12_51_13 rfl) (mg_o hA) rfl ?_
      refine ab_icmpge (tgt := 35) hX dX12_verdict_12 (by decide) (fun h_1 => ?_) (fun h_1 => ?_)
      ·
        have hx_ := ctE (N := ns) h_1 (by exact hs) (by omega) (by omega)
        obtain rfl : ns = i := by omega
        refine ab_iload_n hX dX12_verdict_35 mm1 ?_
        exact ab_ireturn hX hF dX12_verdict_36 rfl (by rfl) (congrArg some (congrArg Value.int (by rfl))) (by rfl)
      ·
        have hlt_ := ctL (N := ns) h_1 (by exact hs) (by omega) (by omega)
        refine ab_iload_n hX dX12_verdict_15 mm1 ?_
        refine ab_aload_n hX dX12_verdict_16 mm0 ?_
        refine ab_getfield hX dX12_verdict_17 (fs_X12_16_13 rfl) (mg_o hA) rfl ?_
        refine ab_iload_n hX dX12_verdict_20 mm2 ?_
        refine ab_iald (i := i) hX dX12_verdict_21 (mg_6 hA) rfl (by omega) (by decide) ?_
        refine ab_callS1r hX dX12_verdict_22 ss_X12_verdict_68 (cm_X12_aboutOf hG) (Nat.le_of_ble_eq_true rfl) ?_
        refine ab_iconst (v := (-1)) hX dX12_verdict_25 (by decide) ?_
        refine ab_ixor hX dX12_verdict_26 ?_
        refine ab_iand hX dX12_verdict_27 ?_
        refine ab_istore_n hX dX12_verdict_28 rfl (by decide) rfl ?_
        refine ab_iinc hX dX12_verdict_29 mm2 rfl (by decide) rfl ?_
        refine ab_goto (tgt := 7) hX dX12_verdict_32 (by decide) ?_
        exact ab_pm3 mm2 (mmv1 (congrArg Value.int (by first | exact (nI_1 _).symm | rfl | (rw [acc_s]; first | rfl | (simp only [vdF, h_1, ↓reduceIte, Bool.false_eq_true]; done) | (simp only [vdF, h_1, ↓reduceIte, Bool.false_eq_true]; rfl))))) (mmv0 (congrArg Value.int (by first | exact (nI_1 _).symm | rfl | (rw [acc_s]; first | rfl | (simp only [vdF, h_1, ↓reduceIte, Bool.false_eq_true]; done) | (simp only [vdF, h_1, ↓reduceIte, Bool.false_eq_true]; rfl))))) (ih7 (_) (by omega) (i + 1) (by omega) rfl)
  exact ab_pm3 mm2 (mmv1 (congrArg Value.int (by rfl))) (mmv0 (congrArg Value.int (by rfl))) (L7 _ 0 (by omega) rfl)
theorem cm_X12_like {G : ab_G} (hG : ab_GG G) {A : List ab_E} {s : MS} {B : List ab_E} (hA : A.length = 42) {x : Int64} {w : Int32} {k : Int32} {j : Nat} (hj : k = nI j) (hj2 : j < 5) : ab_CM G mX12_like [.ref 42, .long x, .int w, .int k] (mH A s B) (some (.long (likeI s x w j))) (mH A s B) := by
  refine ab_meth (l0 := [(0, .ref 42), (1, .long x), (3, .int w), (4, .int k)]) hG (by decide +kernel) rfl (Nat.le_of_ble_eq_true rfl) (Nat.le_refl _) (Nat.le_refl _) (fun X hX hF => ?_)
  refine ab_lconst (v := 0) hX dX12_like_0 rfl ?_
  refine ab_lstore hX dX12_like_1 (by decide) rfl ?_
  refine ab_iconst (v := 0) hX dX12_like_3 (by decide) ?_
  refine ab_istore hX dX12_like_4 (by decide) rfl ?_
  have L6 : ∀ (k6_ : Nat) (i : Nat) (hi_ : i ≤ 64), k6_ = 64 - i → ab_WA G mX12_like X 6 [(0, .ref 42), (1, .long x), (3, .int w), (4, .int k), (5, .long (acc (likeF s x w j) 0 i)), (7, .int (nI i))] [] (mH A s B) := by
    intro k6_
    induction k6_ using Nat.strongRecOn with
    | _ k6_ ih6 =>
      intro i hi_ hk6_
      refine ab_iload hX dX12_like_6 mm5 ?_
      refine ab_bipush (v := 64) hX dX12_like_8 (by decide) ?_
      refine ab_icmpge (tgt := 54) hX dX12_like_10 (by decide) (fun h_1 => ?_) (fun h_1 => ?_)
      ·
        have hx_ := ctE (N := 64) h_1 (by rfl) (by omega) (by omega)
        obtain rfl : 64 = i := by omega
        refine ab_lload hX dX12_like_54 mm4 ?_
        exact ab_lreturn hX hF dX12_like_56 rfl (congrArg some (congrArg Value.long (by rfl))) (by rfl)
      ·
        have hlt_ := ctL (N := 64) h_1 (by rfl) (by omega) (by omega)
        refine ab_lload_n hX dX12_like_13 mm1 ?_
        refine ab_iload hX dX12_like_14 mm5 ?_
        refine ab_lshr hX dX12_like_16 ?_
        refine ab_lconst (v := 1) hX dX12_like_17 rfl ?_
        refine ab_land hX dX12_like_18 ?_
        refine ab_lconst (v := 1) hX dX12_like_19 rfl ?_
        refine ab_lcmp hX dX12_like_20 ?_
        refine ab_ifneC (tgt := 48) hX dX12_like_21 (by decide) (fun h_2 => ?_) (fun h_2 => ?_)
        ·
          refine ab_iinc hX dX12_like_48 mm5 rfl (by decide) rfl ?_
          refine ab_goto (tgt := 6) hX dX12_like_51 (by decide) ?_
          exact ab_pm6 mm1 (mmv2 (congrArg Value.long (by first | exact (nI_1 _).symm | rfl | (rw [acc_s]; first | rfl | (simp only [likeF, h_1, h_2, ↓reduceIte, Bool.false_eq_true]; done) | (simp only [likeF, h_1, h_2, ↓reduceIte, Bool.false_eq_true]; rfl))))) (mmv3 (congrArg Value.int (by first | exact (nI_1 _).symm | rfl | (rw [acc_s]; first | rfl | (simp only [likeF, h_1, h_2, ↓reduceIte, Bool.false_eq_true]; done) | (simp only [likeF, h_1, h_2, ↓reduceIte, Bool.false_eq_true]; rfl))))) (mmv4 (congrArg Value.int (by first | exact (nI_1 _).symm | rfl | (rw [acc_s]; first | rfl | (simp only [likeF, h_1, h_2, ↓reduceIte, Bool.false_eq_true]; done) | (simp only [likeF, h_1, h_2, ↓reduceIte, Bool.false_eq_true]; rfl))))) (mmv5 (congrArg Value.long (by first | exact (nI_1 _).symm | rfl | (rw [acc_s]; first | rfl | (simp only [likeF, h_1, h_2, ↓reduceIte, Bool.false_eq_true]; done) | (simp only [likeF, h_1, h_2, ↓reduceIte, Bool.false_eq_true]; rfl))))) (mmv0 (congrArg Value.int (by first | exact (nI_1 _).symm | rfl | (rw [acc_s]; first | rfl | (simp only [likeF, h_1, h_2, ↓reduceIte, Bool.false_eq_true]; done) | (simp only [likeF, h_1, h_2, ↓reduceIte, Bool.false_eq_true]; rfl))))) (ih6 (_) (by omega) (i + 1) (by omega) rfl)
        ·
          refine ab_iload hX dX12_like_24 mm5 ?_
          refine ab_iload_n hX dX12_like_26 mm2 ?_
          refine ab_ixor hX dX12_like_27 ?_
          refine ab_aload_n hX dX12_like_28 mm0 ?_
          refine ab_getfield hX dX12_like_29 (fs_X12_13_13 rfl) (mg_o hA) rfl ?_
          refine ab_iload hX dX12_like_32 mm3 ?_
          refine ab_iald (i := j) hX dX12_like_34 (mg_4 hA) hj hj2 (by decide) ?_
          refine ab_iand hX dX12_like_35 ?_
          refine ab_ifne (tgt := 48) hX dX12_like_36 (by decide) (fun h_3 => ?_) (fun h_3 => ?_)
          ·
            refine ab_iinc hX dX12_like_48 mm5 rfl (by decide) rfl ?_
            refine ab_goto (tgt := 6) hX dX12_like_51 (by decide) ?_
            exact ab_pm6 mm1 (mmv2 (congrArg Value.long (by first | exact (nI_1 _).symm | rfl | (rw [acc_s]; first | rfl | (simp only [likeF, h_1, h_2, h_3, ↓reduceIte, Bool.false_eq_true]; done) | (simp only [likeF, h_1, h_2, h_3, ↓reduceIte, Bool.false_eq_true]; rfl))))) (mmv3 (congrArg Value.int (by first | exact (nI_1 _).symm | rfl | (rw [acc_s]; first | rfl | (simp only [likeF, h_1, h_2, h_3, ↓reduceIte, Bool.false_eq_true]; done) | (simp only [likeF, h_1, h_2, h_3, ↓reduceIte, Bool.false_eq_true]; rfl))))) (mmv4 (congrArg Value.int (by first | exact (nI_1 _).symm | rfl | (rw [acc_s]; first | rfl | (simp only [likeF, h_1, h_2, h_3, ↓reduceIte, Bool.false_eq_true]; done) | (simp only [likeF, h_1, h_2, h_3, ↓reduceIte, Bool.false_eq_true]; rfl))))) (mmv5 (congrArg Value.long (by first | exact (nI_1 _).symm | rfl | (rw [acc_s]; first | rfl | (simp only [likeF, h_1, h_2, h_3, ↓reduceIte, Bool.false_eq_true]; done) | (simp only [likeF, h_1, h_2, h_3, ↓reduceIte, Bool.false_eq_true]; rfl))))) (mmv0 (congrArg Value.int (by first | exact (nI_1 _).symm | rfl | (rw [acc_s]; first | rfl | (simp only [likeF, h_1, h_2, h_3, ↓reduceIte, Bool.false_eq_true]; done) | (simp only [likeF, h_1, h_2, h_3, ↓reduceIte, Bool.false_eq_true]; rfl))))) (ih6 (_) (by omega) (i + 1) (by omega) rfl)
          ·
            refine ab_lload hX dX12_like_39 mm4 ?_
            refine ab_lconst (v := 1) hX dX12_like_41 rfl ?_
            refine ab_iload hX dX12_like_42 mm5 ?_
            refine ab_lshl hX dX12_like_44 ?_
            refine ab_lor hX dX12_like_45 ?_
            refine ab_lstore hX dX12_like_46 (by decide) rfl ?_
            refine ab_iinc hX dX12_like_48 mm5 rfl (by decide) rfl ?_
            refine ab_goto (tgt := 6) hX dX12_like_51 (by decide) ?_
            exact ab_pm6 mm2 (mmv3 (congrArg Value.long (by first | exact (nI_1 _).symm | rfl | (rw [acc_s]; first | rfl | (simp only [likeF, h_1, h_2, h_3, ↓reduceIte, Bool.false_eq_true]; done) | (simp only [likeF, h_1, h_2, h_3, ↓reduceIte, Bool.false_eq_true]; rfl))))) (mmv4 (congrArg Value.int (by first | exact (nI_1 _).symm | rfl | (rw [acc_s]; first | rfl | (simp only [likeF, h_1, h_2, h_3, ↓reduceIte, Bool.false_eq_true]; done) | (simp only [likeF, h_1, h_2, h_3, ↓reduceIte, Bool.false_eq_true]; rfl))))) (mmv5 (congrArg Value.int (by first | exact (nI_1 _).symm | rfl | (rw [acc_s]; first | rfl | (simp only [likeF, h_1, h_2, h_3, ↓reduceIte, Bool.false_eq_true]; done) | (simp only [likeF, h_1, h_2, h_3, ↓reduceIte, Bool.false_eq_true]; rfl))))) (mmv1 (congrArg Value.long (by first | exact (nI_1 _).symm | rfl | (rw [acc_s]; first | rfl | (simp only [likeF, h_1, h_2, h_3, ↓reduceIte, Bool.false_eq_true]; done) | (simp only [likeF, h_1, h_2, h_3, ↓reduceIte, Bool.false_eq_true]; rfl))))) (mmv0 (congrArg Value.int (by first | exact (nI_1 _).symm | rfl | (rw [acc_s]; first | rfl | (simp only [likeF, h_1, h_2, h_3, ↓reduceIte, Bool.false_eq_true]; done) | (simp only [likeF, h_1, h_2, h_3, ↓reduceIte, Bool.false_eq_true]; rfl))))) (ih6 (_) (by omega) (i + 1) (by omega) rfl)
  exact ab_pm6 mm2 (mmv3 (congrArg Value.long (by rfl))) (mmv4 (congrArg Value.int (by rfl))) (mmv5 (congrArg Value.int (by rfl))) (mmv1 (congrArg Value.long (by rfl))) (mmv0 (congrArg Value.int (by rfl))) (L6 _ 0 (by omega) rfl)
theorem cm_X12_alike {G : ab_G} (hG : ab_GG G) {h : List ab_E} {x : Int64}  : ab_CM G mX12_alike [.long x] h (some (.int (alikeI x))) h := by
  refine ab_meth (l0 := [(0, .long x)]) hG (by decide +kernel) rfl (Nat.le_of_ble_eq_true rfl) (Nat.le_refl _) (Nat.le_refl _) (fun X hX hF => ?_)
  refine ab_lload_n hX dX12_alike_0 mm0 ?_
  refine ab_iconst (v := 1) hX dX12_alike_1 (by decide) ?_
  refine ab_callS2r hX dX12_alike_2 ss_X12_alike_162 (cm_X12_facts hG) (Nat.le_of_ble_eq_true rfl) ?_
  refine ab_lload_n hX dX12_alike_5 mm0 ?_
  refine ab_iconst (v := 0) hX dX12_alike_6 (by decide) ?_
  refine ab_callS2r hX dX12_alike_7 ss_X12_alike_162 (cm_X12_facts hG) (Nat.le_of_ble_eq_true rfl) ?_
  refine ab_ior hX dX12_alike_10 ?_
  exact ab_ireturn hX hF dX12_alike_11 rfl (by rfl) (congrArg some (congrArg Value.int (by rfl))) (by rfl)
theorem cm_X12_certain {G : ab_G} (hG : ab_GG G) {A : List ab_E} {s : MS} {B : List ab_E} (hA : A.length = 42) {w : Int32} {nl nw ns : Nat} (hI : mI s nl nw ns)  : ab_CM G mX12_certain [.ref 42, .int w] (mH A s B) (some (.int (certainM s nl ns w))) (mH A s B) := by
  refine ab_meth (l0 := [(0, .ref 42), (1, .int w)]) hG (by decide +kernel) rfl (Nat.le_of_ble_eq_true rfl) (Nat.le_refl _) (Nat.le_refl _) (fun X hX hF => ?_)
  obtain ⟨hl, hl6, hw, hw5, hs, hs10⟩ := id hI
  refine ab_aload_n hX dX12_certain_0 mm0 ?_
  refine ab_iload_n hX dX12_certain_1 mm1 ?_
  refine ab_callV1r hX dX12_certain_2 (mg_o hA) ss_X12_certain_104 (cm_X12_isWitness hG hA) (Nat.le_of_ble_eq_true rfl) ?_
  refine ab_ifeqB (tgt := 27) hX dX12_certain_5 (by decide) (fun h_1 => ?_) (fun h_1 => ?_)
  ·
    refine ab_iconst (v := (-1)) hX dX12_certain_27 (by decide) ?_
    exact ab_ireturn hX hF dX12_certain_28 rfl (by rfl) (congrArg some (congrArg Value.int (by first | rfl | (simp only [certainM, h_1, ↓reduceIte, Bool.false_eq_true]; done) | (simp only [certainM, h_1, ↓reduceIte, Bool.false_eq_true]; rfl) | (unfold certainM; (repeat' split) <;> first | rfl | contradiction | (simp_all; done))))) (by rfl)
  ·
    obtain ⟨j, hj, rfl⟩ := iw_ex (n := nw) (by rw [hw]) (by omega) h_1
    have hjc := tn_nI (j := j) (by omega)
    refine ab_aload_n hX dX12_certain_8 mm0 ?_
    refine ab_aload_n hX dX12_certain_9 mm0 ?_
    refine ab_callV0r hX dX12_certain_10 (mg_o hA) ss_X12_certain_153 (cm_X12_left hG hA hI) (Nat.le_of_ble_eq_true rfl) ?_
    refine ab_aload_n hX dX12_certain_13 mm0 ?_
    refine ab_getfield hX dX12_certain_14 (fs_X12_61_13 rfl) (mg_o hA) rfl ?_
    refine ab_iload_n hX dX12_certain_17 mm1 ?_
    refine ab_callV3r hX dX12_certain_18 (mg_o hA) ss_X12_certain_199 (cm_X12_like hG hA rfl (by omega)) (Nat.le_of_ble_eq_true rfl) ?_
    refine ab_callS1r hX dX12_certain_21 ss_X12_certain_203 (cm_X12_alike hG) (Nat.le_of_ble_eq_true rfl) ?_
    refine ab_goto (tgt := 28) hX dX12_certain_24 (by decide) ?_
    exact ab_ireturn hX hF dX12_certain_28 rfl (by rfl) (congrArg some (congrArg Value.int (by first | rfl | (simp only [certainM, h_1, hjc, ↓reduceIte, Bool.false_eq_true]; done) | (simp only [certainM, h_1, hjc, ↓reduceIte, Bool.false_eq_true]; rfl) | (unfold certainM; (repeat' split) <;> first | rfl | contradiction | (simp_all; done))))) (by rfl)
theorem cm_X12_knowsOf {G : ab_G} (hG : ab_GG G) {A : List ab_E} {s : MS} {B : List ab_E} (hA : A.length = 42) {one : Int32} {other : Int32} {nl nw ns : Nat} (hI : mI s nl nw ns)  : ab_CM G mX12_knowsOf [.ref 42, .int one, .int other] (mH A s B) (some (.int (knowsOfM s nl ns one other))) (mH A s B) := by
  refine ab_meth (l0 := [(0, .ref 42), (1, .int one), (2, .int other)]) hG (by decide +kernel) rfl (Nat.le_of_ble_eq_true rfl) (Nat.le_refl _) (Nat.le_refl _) (fun X hX hF => ?_)
  obtain ⟨hl, hl6, hw, hw5, hs, hs10⟩ := id hI
  refine ab_aload_n hX dX12_knowsOf_0 mm0 ?_
  refine ab_iload_n hX dX12_knowsOf_1 mm1 ?_
  refine ab_callV1r hX dX12_knowsOf_2 (mg_o hA) ss_X12_knowsOf_104 (cm_X12_isWitness hG hA) (Nat.le_of_ble_eq_true rfl) ?_
  refine ab_ifeqB (tgt := 16) hX dX12_knowsOf_5 (by decide) (fun h_1 => ?_) (fun h_1 => ?_)
  ·
    refine ab_iconst (v := (-1)) hX dX12_knowsOf_16 (by decide) ?_
    exact ab_ireturn hX hF dX12_knowsOf_17 rfl (by rfl) (congrArg some (congrArg Value.int (by first | rfl | (simp only [knowsOfM, h_1, ↓reduceIte, Bool.false_eq_true]; done) | (simp only [knowsOfM, h_1, ↓reduceIte, Bool.false_eq_true]; rfl) | (unfold knowsOfM; (repeat' split) <;> first | rfl | contradiction | (simp_all; done))))) (by rfl)
  ·
    obtain ⟨j, hj, rfl⟩ := iw_ex (n := nw) (by rw [hw]) (by omega) h_1
    have hjc := tn_nI (j := j) (by omega)
    refine ab_aload_n hX dX12_knowsOf_8 mm0 ?_
    refine ab_iload_n hX dX12_knowsOf_9 mm2 ?_
    refine ab_callV1r hX dX12_knowsOf_10 (mg_o hA) ss_X12_knowsOf_104 (cm_X12_isWitness hG hA) (Nat.le_of_ble_eq_true rfl) ?_
    refine ab_ifneB (tgt := 18) hX dX12_knowsOf_13 (by decide) (fun h_2 => ?_) (fun h_2 => ?_)
    ·
      obtain ⟨j2, hj2, rfl⟩ := iw_ex (n := nw) (by rw [hw]) (by omega) h_2
      have hj2c := tn_nI (j := j2) (by omega)
      refine ab_aload_n hX dX12_knowsOf_18 mm0 ?_
      refine ab_callV0r hX dX12_knowsOf_19 (mg_o hA) ss_X12_knowsOf_153 (cm_X12_left hG hA hI) (Nat.le_of_ble_eq_true rfl) ?_
      refine ab_lstore_n hX dX12_knowsOf_22 rfl (by decide) rfl ?_
      refine ab_aload_n hX dX12_knowsOf_23 mm1 ?_
      refine ab_lload_n hX dX12_knowsOf_24 mm0 ?_
      refine ab_aload_n hX dX12_knowsOf_25 mm1 ?_
      refine ab_getfield hX dX12_knowsOf_26 (fs_X12_61_13 rfl) (mg_o hA) rfl ?_
      refine ab_iload_n hX dX12_knowsOf_29 mm2 ?_
      refine ab_callV3r hX dX12_knowsOf_30 (mg_o hA) ss_X12_knowsOf_199 (cm_X12_like hG hA rfl (by omega)) (Nat.le_of_ble_eq_true rfl) ?_
      refine ab_lstore hX dX12_knowsOf_33 (by decide) rfl ?_
      refine ab_bipush (v := 63) hX dX12_knowsOf_35 (by decide) ?_
      refine ab_istore hX dX12_knowsOf_37 (by decide) rfl ?_
      refine ab_iconst (v := 0) hX dX12_knowsOf_39 (by decide) ?_
      refine ab_istore hX dX12_knowsOf_40 (by decide) rfl ?_
      have L42 : ∀ (k42_ : Nat) (i : Nat) (hi_ : i ≤ 64), k42_ = 64 - i → ab_WA G mX12_knowsOf X 42 [(0, .ref 42), (2, .int (nI j2)), (3, .long (leftA s nl ns)), (5, .long (likeI s (leftA s nl ns) (s.1 0) j)), (7, .int (acc (knF s (leftA s nl ns) (likeI s (leftA s nl ns) (s.1 0) j) j2) 63 i)), (8, .int (nI i))] [] (mH A s B) := by
        intro k42_
        induction k42_ using Nat.strongRecOn with
        | _ k42_ ih42 =>
          intro i hi_ hk42_
          refine ab_iload hX dX12_knowsOf_42 mm5 ?_
          refine ab_bipush (v := 64) hX dX12_knowsOf_44 (by decide) ?_
          refine ab_icmpge (tgt := 83) hX dX12_knowsOf_46 (by decide) (fun h_3 => ?_) (fun h_3 => ?_)
          ·
            have hx_ := ctE (N := 64) h_3 (by rfl) (by omega) (by omega)
            obtain rfl : 64 = i := by omega
            refine ab_iload hX dX12_knowsOf_83 mm4 ?_
            exact ab_ireturn hX hF dX12_knowsOf_85 rfl (by rfl) (congrArg some (congrArg Value.int (by first | rfl | (simp only [knowsOfM, h_1, hjc, h_2, hj2c, h_3, ↓reduceIte, Bool.false_eq_true]; done) | (simp only [knowsOfM, h_1, hjc, h_2, hj2c, h_3, ↓reduceIte, Bool.false_eq_true]; rfl) | (unfold knowsOfM; (repeat' split) <;> first | rfl | contradiction | (simp_all; done))))) (by rfl)
          ·
            have hlti_ := ctL (N := 64) h_3 (by rfl) (by omega) (by omega)
            refine ab_lload hX dX12_knowsOf_49 mm3 ?_
            refine ab_iload hX dX12_knowsOf_51 mm5 ?_
            refine ab_lshr hX dX12_knowsOf_53 ?_
            refine ab_lconst (v := 1) hX dX12_knowsOf_54 rfl ?_
            refine ab_land hX dX12_knowsOf_55 ?_
            refine ab_lconst (v := 1) hX dX12_knowsOf_56 rfl ?_
            refine ab_lcmp hX dX12_knowsOf_57 ?_
            refine ab_ifneC (tgt := 77) hX dX12_knowsOf_58 (by decide) (fun h_4 => ?_) (fun h_4 => ?_)
            ·
              refine ab_iinc hX dX12_knowsOf_77 mm5 rfl (by decide) rfl ?_
              refine ab_goto (tgt := 42) hX dX12_knowsOf_80 (by decide) ?_
              exact ab_pm6 mm1 (mmv2 (congrArg Value.int (by first | exact (nI_1 _).symm | rfl | (rw [acc_s]; first | rfl | (simp only [knF, h_1, hjc, h_2, hj2c, h_3, h_4, ↓reduceIte, Bool.false_eq_true]; done) | (simp only [knF, h_1, hjc, h_2, hj2c, h_3, h_4, ↓reduceIte, Bool.false_eq_true]; rfl))))) (mmv3 (congrArg Value.long (by first | exact (nI_1 _).symm | rfl | (rw [acc_s]; first | rfl | (simp only [knF, h_1, hjc, h_2, hj2c, h_3, h_4, ↓reduceIte, Bool.false_eq_true]; done) | (simp only [knF, h_1, hjc, h_2, hj2c, h_3, h_4, ↓reduceIte, Bool.false_eq_true]; rfl))))) (mmv4 (congrArg Value.long (by first | exact (nI_1 _).symm | rfl | (rw [acc_s]; first | rfl | (simp only [knF, h_1, hjc, h_2, hj2c, h_3, h_4, ↓reduceIte, Bool.false_eq_true]; done) | (simp only [knF, h_1, hjc, h_2, hj2c, h_3, h_4, ↓reduceIte, Bool.false_eq_true]; rfl))))) (mmv5 (congrArg Value.int (by first | exact (nI_1 _).symm | rfl | (rw [acc_s]; first | rfl | (simp only [knF, h_1, hjc, h_2, hj2c, h_3, h_4, ↓reduceIte, Bool.false_eq_true]; done) | (simp only [knF, h_1, hjc, h_2, hj2c, h_3, h_4, ↓reduceIte, Bool.false_eq_true]; rfl))))) (mmv0 (congrArg Value.int (by first | exact (nI_1 _).symm | rfl | (rw [acc_s]; first | rfl | (simp only [knF, h_1, hjc, h_2, hj2c, h_3, h_4, ↓reduceIte, Bool.false_eq_true]; done) | (simp only [knF, h_1, hjc, h_2, hj2c, h_3, h_4, ↓reduceIte, Bool.false_eq_true]; rfl))))) (ih42 (_) (by omega) (i + 1) (by omega) rfl)
            ·
              refine ab_iload hX dX12_knowsOf_61 mm4 ?_
              refine ab_aload_n hX dX12_knowsOf_63 mm0 ?_
              refine ab_lload_n hX dX12_knowsOf_64 mm2 ?_
              refine ab_iload hX dX12_knowsOf_65 mm5 ?_
              refine ab_iload_n hX dX12_knowsOf_67 mm1 ?_
              refine ab_callV3r hX dX12_knowsOf_68 (mg_o hA) ss_X12_knowsOf_199 (cm_X12_like hG hA rfl (by omega)) (Nat.le_of_ble_eq_true rfl) ?_
              refine ab_callS1r hX dX12_knowsOf_71 ss_X12_knowsOf_203 (cm_X12_alike hG) (Nat.le_of_ble_eq_true rfl) ?_
              refine ab_iand hX dX12_knowsOf_74 ?_
              refine ab_istore hX dX12_knowsOf_75 (by decide) rfl ?_
              refine ab_iinc hX dX12_knowsOf_77 mm5 rfl (by decide) rfl ?_
              refine ab_goto (tgt := 42) hX dX12_knowsOf_80 (by decide) ?_
              exact ab_pm6 mm2 (mmv3 (congrArg Value.int (by first | exact (nI_1 _).symm | rfl | (rw [acc_s]; first | rfl | (simp only [knF, h_1, hjc, h_2, hj2c, h_3, h_4, ↓reduceIte, Bool.false_eq_true]; done) | (simp only [knF, h_1, hjc, h_2, hj2c, h_3, h_4, ↓reduceIte, Bool.false_eq_true]; rfl))))) (mmv4 (congrArg Value.long (by first | exact (nI_1 _).symm | rfl | (rw [acc_s]; first | rfl | (simp only [knF, h_1, hjc, h_2, hj2c, h_3, h_4, ↓reduceIte, Bool.false_eq_true]; done) | (simp only [knF, h_1, hjc, h_2, hj2c, h_3, h_4, ↓reduceIte, Bool.false_eq_true]; rfl))))) (mmv5 (congrArg Value.long (by first | exact (nI_1 _).symm | rfl | (rw [acc_s]; first | rfl | (simp only [knF, h_1, hjc, h_2, hj2c, h_3, h_4, ↓reduceIte, Bool.false_eq_true]; done) | (simp only [knF, h_1, hjc, h_2, hj2c, h_3, h_4, ↓reduceIte, Bool.false_eq_true]; rfl))))) (mmv1 (congrArg Value.int (by first | exact (nI_1 _).symm | rfl | (rw [acc_s]; first | rfl | (simp only [knF, h_1, hjc, h_2, hj2c, h_3, h_4, ↓reduceIte, Bool.false_eq_true]; done) | (simp only [knF, h_1, hjc, h_2, hj2c, h_3, h_4, ↓reduceIte, Bool.false_eq_true]; rfl))))) (mmv0 (congrArg Value.int (by first | exact (nI_1 _).symm | rfl | (rw [acc_s]; first | rfl | (simp only [knF, h_1, hjc, h_2, hj2c, h_3, h_4, ↓reduceIte, Bool.false_eq_true]; done) | (simp only [knF, h_1, hjc, h_2, hj2c, h_3, h_4, ↓reduceIte, Bool.false_eq_true]; rfl))))) (ih42 (_) (by omega) (i + 1) (by omega) rfl)
      exact ab_pm6 mm4 (mmv6 (congrArg Value.int (by rfl))) (mmv3 (congrArg Value.long (by rfl))) (mmv2 (congrArg Value.long (by rfl))) (mmv1 (congrArg Value.int (by rfl))) (mmv0 (congrArg Value.int (by rfl))) (L42 _ 0 (by omega) rfl)
    ·
      refine ab_iconst (v := (-1)) hX dX12_knowsOf_16 (by decide) ?_
      exact ab_ireturn hX hF dX12_knowsOf_17 rfl (by rfl) (congrArg some (congrArg Value.int (by first | rfl | (simp only [knowsOfM, h_1, hjc, h_2, ↓reduceIte, Bool.false_eq_true]; done) | (simp only [knowsOfM, h_1, hjc, h_2, ↓reduceIte, Bool.false_eq_true]; rfl) | (unfold knowsOfM; (repeat' split) <;> first | rfl | contradiction | (simp_all; done))))) (by rfl)
theorem cm_X12_allKnow {G : ab_G} (hG : ab_GG G) {A : List ab_E} {s : MS} {B : List ab_E} (hA : A.length = 42) {n : Int32} {nl nw ns : Nat} (hI : mI s nl nw ns)  : ab_CM G mX12_allKnow [.ref 42, .int n] (mH A s B) (some (.int (allKnowM s nl nw ns n))) (mH A s B) := by
  refine ab_meth (l0 := [(0, .ref 42), (1, .int n)]) hG (by decide +kernel) rfl (Nat.le_of_ble_eq_true rfl) (Nat.le_refl _) (Nat.le_refl _) (fun X hX hF => ?_)
  obtain ⟨hl, hl6, hw, hw5, hs, hs10⟩ := id hI
  refine ab_iload_n hX dX12_allKnow_0 mm1 ?_
  refine ab_iconst (v := 0) hX dX12_allKnow_1 (by decide) ?_
  refine ab_iconst (v := 5) hX dX12_allKnow_2 (by decide) ?_
  refine ab_callS3r hX dX12_allKnow_3 ss_X12_allKnow_43 (cm_X12_within hG) (Nat.le_of_ble_eq_true rfl) ?_
  refine ab_ifneB (tgt := 11) hX dX12_allKnow_6 (by decide) (fun h_1 => ?_) (fun h_1 => ?_)
  ·
    obtain ⟨m, hm, rfl⟩ := iw6 h_1
    have hmc := tn_nI (j := m) (by omega)
    refine ab_aload_n hX dX12_allKnow_11 mm0 ?_
    refine ab_getfield hX dX12_allKnow_12 (fs_X12_47_13 rfl) (mg_o hA) rfl ?_
    refine ab_ifne (tgt := 21) hX dX12_allKnow_15 (by decide) (fun h_2 => ?_) (fun h_2 => ?_)
    ·
      refine ab_aload_n hX dX12_allKnow_21 mm0 ?_
      refine ab_callV0r hX dX12_allKnow_22 (mg_o hA) ss_X12_allKnow_153 (cm_X12_left hG hA hI) (Nat.le_of_ble_eq_true rfl) ?_
      refine ab_lstore_n hX dX12_allKnow_25 rfl (by decide) rfl ?_
      refine ab_lconst (v := 0) hX dX12_allKnow_26 rfl ?_
      refine ab_lstore hX dX12_allKnow_27 (by decide) rfl ?_
      refine ab_iconst (v := 0) hX dX12_allKnow_29 (by decide) ?_
      refine ab_istore hX dX12_allKnow_30 (by decide) rfl ?_
      have L32 : ∀ (k32_ : Nat) (i : Nat) (hi_ : i ≤ nw), k32_ = nw - i → ab_WA G mX12_allKnow X 32 [(0, .ref 42), (1, .int (nI m)), (2, .long (leftA s nl ns)), (4, .long (acc (ak0F s (leftA s nl ns)) 0 i)), (6, .int (nI i))] [] (mH A s B) := by
        intro k32_
        induction k32_ using Nat.strongRecOn with
        | _ k32_ ih32 =>
          intro i hi_ hk32_
          refine ab_iload hX dX12_allKnow_32 mm4 ?_
          refine ab_aload_n hX dX12_allKnow_34 mm0 ?_
          refine ab_getfield hX dX12_allKnow_35 (fs_X12_47_13 rfl) (mg_o hA) rfl ?_
          refine ab_icmpge (tgt := 63) hX dX12_allKnow_38 (by decide) (fun h_3 => ?_) (fun h_3 => ?_)
          ·
            have hx_ := ctE (N := nw) h_3 (by exact hw) (by omega) (by omega)
            obtain rfl : nw = i := by omega
            refine ab_iconst (v := 0) hX dX12_allKnow_63 (by decide) ?_
            refine ab_istore hX dX12_allKnow_64 (by decide) rfl ?_
            have L66 : ∀ (k66_ : Nat) (q : Nat) (hq_ : q ≤ m), k66_ = m - q → ab_WA G mX12_allKnow X 66 [(0, .ref 42), (1, .int (nI m)), (2, .long (leftA s nl ns)), (4, .long (acc (akF s (leftA s nl ns) nw) (acc (ak0F s (leftA s nl ns)) 0 nw) q)), (6, .int (nI q))] [] (mH A s B) := by
              intro k66_
              induction k66_ using Nat.strongRecOn with
              | _ k66_ ih66 =>
                intro q hq_ hk66_
                refine ab_iload hX dX12_allKnow_66 mm4 ?_
                refine ab_iload_n hX dX12_allKnow_68 mm1 ?_
                refine ab_icmpge (tgt := 142) hX dX12_allKnow_69 (by decide) (fun h_4 => ?_) (fun h_4 => ?_)
                ·
                  have hx_ := ctE (N := m) h_4 (by rfl) (by omega) (by omega)
                  obtain rfl : m = q := by omega
                  refine ab_bipush (v := 63) hX dX12_allKnow_142 (by decide) ?_
                  refine ab_istore hX dX12_allKnow_144 (by decide) rfl ?_
                  refine ab_iconst (v := 0) hX dX12_allKnow_146 (by decide) ?_
                  refine ab_istore hX dX12_allKnow_147 (by decide) rfl ?_
                  have L149 : ∀ (k149_ : Nat) (u : Nat) (hu_ : u ≤ 64), k149_ = 64 - u → ab_WA G mX12_allKnow X 149 [(0, .ref 42), (4, .long (akR s (leftA s nl ns) nw m)), (6, .int (acc (akB s (akR s (leftA s nl ns) nw m)) 63 u)), (7, .int (nI u))] [] (mH A s B) := by
                    intro k149_
                    induction k149_ using Nat.strongRecOn with
                    | _ k149_ ih149 =>
                      intro u hu_ hk149_
                      refine ab_iload hX dX12_allKnow_149 mm3 ?_
                      refine ab_bipush (v := 64) hX dX12_allKnow_151 (by decide) ?_
                      refine ab_icmpge (tgt := 188) hX dX12_allKnow_153 (by decide) (fun h_5 => ?_) (fun h_5 => ?_)
                      ·
                        have hx_ := ctE (N := 64) h_5 (by rfl) (by omega) (by omega)
                        obtain rfl : 64 = u := by omega
                        refine ab_iload hX dX12_allKnow_188 mm2 ?_
                        exact ab_ireturn hX hF dX12_allKnow_190 rfl (by rfl) (congrArg some (congrArg Value.int (by first | rfl | (simp only [allKnowM, akR, h_1, hmc, h_2, h_3, h_4, h_5, ↓reduceIte, Bool.false_eq_true]; done) | (simp only [allKnowM, akR, h_1, hmc, h_2, h_3, h_4, h_5, ↓reduceIte, Bool.false_eq_true]; rfl) | (unfold allKnowM; (repeat' split) <;> first | rfl | contradiction | (simp_all; done))))) (by rfl)
                      ·
                        have hltu_ := ctL (N := 64) h_5 (by rfl) (by omega) (by omega)
                        refine ab_lload hX dX12_allKnow_156 mm1 ?_
                        refine ab_iload hX dX12_allKnow_158 mm3 ?_
                        refine ab_lshr hX dX12_allKnow_160 ?_
                        refine ab_lconst (v := 1) hX dX12_allKnow_161 rfl ?_
                        refine ab_land hX dX12_allKnow_162 ?_
                        refine ab_lconst (v := 1) hX dX12_allKnow_163 rfl ?_
                        refine ab_lcmp hX dX12_allKnow_164 ?_
                        refine ab_ifneC (tgt := 182) hX dX12_allKnow_165 (by decide) (fun h_6 => ?_) (fun h_6 => ?_)
                        ·
                          refine ab_iinc hX dX12_allKnow_182 mm3 rfl (by decide) rfl ?_
                          refine ab_goto (tgt := 149) hX dX12_allKnow_185 (by decide) ?_
                          exact ab_pm4 mm1 (mmv2 (congrArg Value.long (by first | exact (nI_1 _).symm | rfl | (rw [acc_s]; first | rfl | (simp only [akB, h_1, hmc, h_2, h_3, h_4, h_5, h_6, ↓reduceIte, Bool.false_eq_true]; done) | (simp only [akB, h_1, hmc, h_2, h_3, h_4, h_5, h_6, ↓reduceIte, Bool.false_eq_true]; rfl))))) (mmv3 (congrArg Value.int (by first | exact (nI_1 _).symm | rfl | (rw [acc_s]; first | rfl | (simp only [akB, h_1, hmc, h_2, h_3, h_4, h_5, h_6, ↓reduceIte, Bool.false_eq_true]; done) | (simp only [akB, h_1, hmc, h_2, h_3, h_4, h_5, h_6, ↓reduceIte, Bool.false_eq_true]; rfl))))) (mmv0 (congrArg Value.int (by first | exact (nI_1 _).symm | rfl | (rw [acc_s]; first | rfl | (simp only [akB, h_1, hmc, h_2, h_3, h_4, h_5, h_6, ↓reduceIte, Bool.false_eq_true]; done) | (simp only [akB, h_1, hmc, h_2, h_3, h_4, h_5, h_6, ↓reduceIte, Bool.false_eq_true]; rfl))))) (ih149 (_) (by omega) (u + 1) (by omega) rfl)
                        ·
                          refine ab_iload hX dX12_allKnow_168 mm2 ?_
                          refine ab_iload hX dX12_allKnow_170 mm3 ?_
                          refine ab_aload_n hX dX12_allKnow_172 mm0 ?_
                          refine ab_getfield hX dX12_allKnow_173 (fs_X12_61_13 rfl) (mg_o hA) rfl ?_
                          refine ab_ixor hX dX12_allKnow_176 ?_
                          refine ab_iconst (v := (-1)) hX dX12_allKnow_177 (by decide) ?_
                          refine ab_ixor hX dX12_allKnow_178 ?_
                          refine ab_iand hX dX12_allKnow_179 ?_
                          refine ab_istore hX dX12_allKnow_180 (by decide) rfl ?_
                          refine ab_iinc hX dX12_allKnow_182 mm3 rfl (by decide) rfl ?_
                          refine ab_goto (tgt := 149) hX dX12_allKnow_185 (by decide) ?_
                          exact ab_pm4 mm2 (mmv3 (congrArg Value.long (by first | exact (nI_1 _).symm | rfl | (rw [acc_s]; first | rfl | (simp only [akB, h_1, hmc, h_2, h_3, h_4, h_5, h_6, ↓reduceIte, Bool.false_eq_true]; done) | (simp only [akB, h_1, hmc, h_2, h_3, h_4, h_5, h_6, ↓reduceIte, Bool.false_eq_true]; rfl))))) (mmv1 (congrArg Value.int (by first | exact (nI_1 _).symm | rfl | (rw [acc_s]; first | rfl | (simp only [akB, h_1, hmc, h_2, h_3, h_4, h_5, h_6, ↓reduceIte, Bool.false_eq_true]; done) | (simp only [akB, h_1, hmc, h_2, h_3, h_4, h_5, h_6, ↓reduceIte, Bool.false_eq_true]; rfl))))) (mmv0 (congrArg Value.int (by first | exact (nI_1 _).symm | rfl | (rw [acc_s]; first | rfl | (simp only [akB, h_1, hmc, h_2, h_3, h_4, h_5, h_6, ↓reduceIte, Bool.false_eq_true]; done) | (simp only [akB, h_1, hmc, h_2, h_3, h_4, h_5, h_6, ↓reduceIte, Bool.false_eq_true]; rfl))))) (ih149 (_) (by omega) (u + 1) (by omega) rfl)
                  exact ab_pm4 mm2 (mmv5 (congrArg Value.long (by rfl))) (mmv1 (congrArg Value.int (by rfl))) (mmv0 (congrArg Value.int (by rfl))) (L149 _ 0 (by omega) rfl)
                ·
                  have hltq_ := ctL (N := m) h_4 (by rfl) (by omega) (by omega)
                  refine ab_lload hX dX12_allKnow_72 mm3 ?_
                  refine ab_lstore hX dX12_allKnow_74 (by decide) rfl ?_
                  refine ab_iconst (v := 0) hX dX12_allKnow_76 (by decide) ?_
                  refine ab_istore hX dX12_allKnow_77 (by decide) rfl ?_
                  have L79 : ∀ (k79_ : Nat) (v : Nat) (hv_ : v ≤ 64), k79_ = 64 - v → ab_WA G mX12_allKnow X 79 [(0, .ref 42), (1, .int (nI m)), (2, .long (leftA s nl ns)), (4, .long (acc (ak1F s (leftA s nl ns) nw (acc (akF s (leftA s nl ns) nw) (acc (ak0F s (leftA s nl ns)) 0 nw) q)) (acc (akF s (leftA s nl ns) nw) (acc (ak0F s (leftA s nl ns)) 0 nw) q) v)), (6, .int (nI q)), (7, .long (acc (akF s (leftA s nl ns) nw) (acc (ak0F s (leftA s nl ns)) 0 nw) q)), (9, .int (nI v))] [] (mH A s B) := by
                    intro k79_
                    induction k79_ using Nat.strongRecOn with
                    | _ k79_ ih79 =>
                      intro v hv_ hk79_
                      refine ab_iload hX dX12_allKnow_79 mm6 ?_
                      refine ab_bipush (v := 64) hX dX12_allKnow_81 (by decide) ?_
                      refine ab_icmpge (tgt := 136) hX dX12_allKnow_83 (by decide) (fun h_7 => ?_) (fun h_7 => ?_)
                      ·
                        have hx_ := ctE (N := 64) h_7 (by rfl) (by omega) (by omega)
                        obtain rfl : 64 = v := by omega
                        refine ab_iinc hX dX12_allKnow_136 mm4 rfl (by decide) rfl ?_
                        refine ab_goto (tgt := 66) hX dX12_allKnow_139 (by decide) ?_
                        exact ab_pm5 mm1 (mmv2 (congrArg Value.int (by first | exact (nI_1 _).symm | rfl | (rw [acc_s]; first | rfl | (simp only [akF, h_1, hmc, h_2, h_3, h_4, h_7, ↓reduceIte, Bool.false_eq_true]; done) | (simp only [akF, h_1, hmc, h_2, h_3, h_4, h_7, ↓reduceIte, Bool.false_eq_true]; rfl))))) (mmv3 (congrArg Value.long (by first | exact (nI_1 _).symm | rfl | (rw [acc_s]; first | rfl | (simp only [akF, h_1, hmc, h_2, h_3, h_4, h_7, ↓reduceIte, Bool.false_eq_true]; done) | (simp only [akF, h_1, hmc, h_2, h_3, h_4, h_7, ↓reduceIte, Bool.false_eq_true]; rfl))))) (mmv4 (congrArg Value.long (by first | exact (nI_1 _).symm | rfl | (rw [acc_s]; first | rfl | (simp only [akF, h_1, hmc, h_2, h_3, h_4, h_7, ↓reduceIte, Bool.false_eq_true]; done) | (simp only [akF, h_1, hmc, h_2, h_3, h_4, h_7, ↓reduceIte, Bool.false_eq_true]; rfl))))) (mmv0 (congrArg Value.int (by first | exact (nI_1 _).symm | rfl | (rw [acc_s]; first | rfl | (simp only [akF, h_1, hmc, h_2, h_3, h_4, h_7, ↓reduceIte, Bool.false_eq_true]; done) | (simp only [akF, h_1, hmc, h_2, h_3, h_4, h_7, ↓reduceIte, Bool.false_eq_true]; rfl))))) (ih66 (_) (by omega) (q + 1) (by omega) rfl)
                      ·
                        have hltv_ := ctL (N := 64) h_7 (by rfl) (by omega) (by omega)
                        refine ab_iconst (v := 0) hX dX12_allKnow_86 (by decide) ?_
                        refine ab_istore hX dX12_allKnow_87 (by decide) rfl ?_
                        have L89 : ∀ (k89_ : Nat) (w : Nat) (hw_ : w ≤ nw), k89_ = nw - w → ab_WA G mX12_allKnow X 89 [(0, .ref 42), (1, .int (nI m)), (2, .long (leftA s nl ns)), (4, .long (acc (ak2F s (leftA s nl ns) (acc (akF s (leftA s nl ns) nw) (acc (ak0F s (leftA s nl ns)) 0 nw) q) v) (acc (ak1F s (leftA s nl ns) nw (acc (akF s (leftA s nl ns) nw) (acc (ak0F s (leftA s nl ns)) 0 nw) q)) (acc (akF s (leftA s nl ns) nw) (acc (ak0F s (leftA s nl ns)) 0 nw) q) v) w)), (6, .int (nI q)), (7, .long (acc (akF s (leftA s nl ns) nw) (acc (ak0F s (leftA s nl ns)) 0 nw) q)), (9, .int (nI v)), (10, .int (nI w))] [] (mH A s B) := by
                          intro k89_
                          induction k89_ using Nat.strongRecOn with
                          | _ k89_ ih89 =>
                            intro w hw_ hk89_
                            refine ab_iload hX dX12_allKnow_89 mm7 ?_
                            refine ab_aload_n hX dX12_allKnow_91 mm0 ?_
                            refine ab_getfield hX dX12_allKnow_92 (fs_X12_47_13 rfl) (mg_o hA) rfl ?_
                            refine ab_icmpge (tgt := 130) hX dX12_allKnow_95 (by decide) (fun h_8 => ?_) (fun h_8 => ?_)
                            ·
                              have hx_ := ctE (N := nw) h_8 (by exact hw) (by omega) (by omega)
                              obtain rfl : nw = w := by omega
                              refine ab_iinc hX dX12_allKnow_130 mm6 rfl (by decide) rfl ?_
                              refine ab_goto (tgt := 79) hX dX12_allKnow_133 (by decide) ?_
                              exact ab_pm7 mm1 (mmv2 (congrArg Value.int (by first | exact (nI_1 _).symm | rfl | (rw [acc_s]; first | rfl | (simp only [ak1F, h_1, hmc, h_2, h_3, h_4, h_7, h_8, ↓reduceIte, Bool.false_eq_true]; done) | (simp only [ak1F, h_1, hmc, h_2, h_3, h_4, h_7, h_8, ↓reduceIte, Bool.false_eq_true]; rfl))))) (mmv3 (congrArg Value.long (by first | exact (nI_1 _).symm | rfl | (rw [acc_s]; first | rfl | (simp only [ak1F, h_1, hmc, h_2, h_3, h_4, h_7, h_8, ↓reduceIte, Bool.false_eq_true]; done) | (simp only [ak1F, h_1, hmc, h_2, h_3, h_4, h_7, h_8, ↓reduceIte, Bool.false_eq_true]; rfl))))) (mmv4 (congrArg Value.long (by first | exact (nI_1 _).symm | rfl | (rw [acc_s]; first | rfl | (simp only [ak1F, h_1, hmc, h_2, h_3, h_4, h_7, h_8, ↓reduceIte, Bool.false_eq_true]; done) | (simp only [ak1F, h_1, hmc, h_2, h_3, h_4, h_7, h_8, ↓reduceIte, Bool.false_eq_true]; rfl))))) (mmv5 (congrArg Value.int (by first | exact (nI_1 _).symm | rfl | (rw [acc_s]; first | rfl | (simp only [ak1F, h_1, hmc, h_2, h_3, h_4, h_7, h_8, ↓reduceIte, Bool.false_eq_true]; done) | (simp only [ak1F, h_1, hmc, h_2, h_3, h_4, h_7, h_8, ↓reduceIte, Bool.false_eq_true]; rfl))))) (mmv6 (congrArg Value.long (by first | exact (nI_1 _).symm | rfl | (rw [acc_s]; first | rfl | (simp only [ak1F, h_1, hmc, h_2, h_3, h_4, h_7, h_8, ↓reduceIte, Bool.false_eq_true]; done) | (simp only [ak1F, h_1, hmc, h_2, h_3, h_4, h_7, h_8, ↓reduceIte, Bool.false_eq_true]; rfl))))) (mmv0 (congrArg Value.int (by first | exact (nI_1 _).symm | rfl | (rw [acc_s]; first | rfl | (simp only [ak1F, h_1, hmc, h_2, h_3, h_4, h_7, h_8, ↓reduceIte, Bool.false_eq_true]; done) | (simp only [ak1F, h_1, hmc, h_2, h_3, h_4, h_7, h_8, ↓reduceIte, Bool.false_eq_true]; rfl))))) (ih79 (_) (by omega) (v + 1) (by omega) rfl)
                            ·
                              have hltw_ := ctL (N := nw) h_8 (by exact hw) (by omega) (by omega)
                              refine ab_lload hX dX12_allKnow_98 mm5 ?_
                              refine ab_iload hX dX12_allKnow_100 mm6 ?_
                              refine ab_lshr hX dX12_allKnow_102 ?_
                              refine ab_lconst (v := 1) hX dX12_allKnow_103 rfl ?_
                              refine ab_land hX dX12_allKnow_104 ?_
                              refine ab_lconst (v := 1) hX dX12_allKnow_105 rfl ?_
                              refine ab_lcmp hX dX12_allKnow_106 ?_
                              refine ab_ifneC (tgt := 124) hX dX12_allKnow_107 (by decide) (fun h_9 => ?_) (fun h_9 => ?_)
                              ·
                                refine ab_iinc hX dX12_allKnow_124 mm7 rfl (by decide) rfl ?_
                                refine ab_goto (tgt := 89) hX dX12_allKnow_127 (by decide) ?_
                                exact ab_pm8 mm1 (mmv2 (congrArg Value.int (by first | exact (nI_1 _).symm | rfl | (rw [acc_s]; first | rfl | (simp only [ak2F, h_1, hmc, h_2, h_3, h_4, h_7, h_8, h_9, ↓reduceIte, Bool.false_eq_true]; done) | (simp only [ak2F, h_1, hmc, h_2, h_3, h_4, h_7, h_8, h_9, ↓reduceIte, Bool.false_eq_true]; rfl))))) (mmv3 (congrArg Value.long (by first | exact (nI_1 _).symm | rfl | (rw [acc_s]; first | rfl | (simp only [ak2F, h_1, hmc, h_2, h_3, h_4, h_7, h_8, h_9, ↓reduceIte, Bool.false_eq_true]; done) | (simp only [ak2F, h_1, hmc, h_2, h_3, h_4, h_7, h_8, h_9, ↓reduceIte, Bool.false_eq_true]; rfl))))) (mmv4 (congrArg Value.long (by first | exact (nI_1 _).symm | rfl | (rw [acc_s]; first | rfl | (simp only [ak2F, h_1, hmc, h_2, h_3, h_4, h_7, h_8, h_9, ↓reduceIte, Bool.false_eq_true]; done) | (simp only [ak2F, h_1, hmc, h_2, h_3, h_4, h_7, h_8, h_9, ↓reduceIte, Bool.false_eq_true]; rfl))))) (mmv5 (congrArg Value.int (by first | exact (nI_1 _).symm | rfl | (rw [acc_s]; first | rfl | (simp only [ak2F, h_1, hmc, h_2, h_3, h_4, h_7, h_8, h_9, ↓reduceIte, Bool.false_eq_true]; done) | (simp only [ak2F, h_1, hmc, h_2, h_3, h_4, h_7, h_8, h_9, ↓reduceIte, Bool.false_eq_true]; rfl))))) (mmv6 (congrArg Value.long (by first | exact (nI_1 _).symm | rfl | (rw [acc_s]; first | rfl | (simp only [ak2F, h_1, hmc, h_2, h_3, h_4, h_7, h_8, h_9, ↓reduceIte, Bool.false_eq_true]; done) | (simp only [ak2F, h_1, hmc, h_2, h_3, h_4, h_7, h_8, h_9, ↓reduceIte, Bool.false_eq_true]; rfl))))) (mmv7 (congrArg Value.int (by first | exact (nI_1 _).symm | rfl | (rw [acc_s]; first | rfl | (simp only [ak2F, h_1, hmc, h_2, h_3, h_4, h_7, h_8, h_9, ↓reduceIte, Bool.false_eq_true]; done) | (simp only [ak2F, h_1, hmc, h_2, h_3, h_4, h_7, h_8, h_9, ↓reduceIte, Bool.false_eq_true]; rfl))))) (mmv0 (congrArg Value.int (by first | exact (nI_1 _).symm | rfl | (rw [acc_s]; first | rfl | (simp only [ak2F, h_1, hmc, h_2, h_3, h_4, h_7, h_8, h_9, ↓reduceIte, Bool.false_eq_true]; done) | (simp only [ak2F, h_1, hmc, h_2, h_3, h_4, h_7, h_8, h_9, ↓reduceIte, Bool.false_eq_true]; rfl))))) (ih89 (_) (by omega) (w + 1) (by omega) rfl)
                              ·
                                refine ab_lload hX dX12_allKnow_110 mm3 ?_
                                refine ab_aload_n hX dX12_allKnow_112 mm0 ?_
                                refine ab_lload_n hX dX12_allKnow_113 mm2 ?_
                                refine ab_iload hX dX12_allKnow_114 mm6 ?_
                                refine ab_iload hX dX12_allKnow_116 mm7 ?_
                                refine ab_callV3r hX dX12_allKnow_118 (mg_o hA) ss_X12_allKnow_199 (cm_X12_like hG hA rfl (by omega)) (Nat.le_of_ble_eq_true rfl) ?_
                                refine ab_lor hX dX12_allKnow_121 ?_
                                refine ab_lstore hX dX12_allKnow_122 (by decide) rfl ?_
                                refine ab_iinc hX dX12_allKnow_124 mm7 rfl (by decide) rfl ?_
                                refine ab_goto (tgt := 89) hX dX12_allKnow_127 (by decide) ?_
                                exact ab_pm8 mm2 (mmv3 (congrArg Value.int (by first | exact (nI_1 _).symm | rfl | (rw [acc_s]; first | rfl | (simp only [ak2F, h_1, hmc, h_2, h_3, h_4, h_7, h_8, h_9, ↓reduceIte, Bool.false_eq_true]; done) | (simp only [ak2F, h_1, hmc, h_2, h_3, h_4, h_7, h_8, h_9, ↓reduceIte, Bool.false_eq_true]; rfl))))) (mmv4 (congrArg Value.long (by first | exact (nI_1 _).symm | rfl | (rw [acc_s]; first | rfl | (simp only [ak2F, h_1, hmc, h_2, h_3, h_4, h_7, h_8, h_9, ↓reduceIte, Bool.false_eq_true]; done) | (simp only [ak2F, h_1, hmc, h_2, h_3, h_4, h_7, h_8, h_9, ↓reduceIte, Bool.false_eq_true]; rfl))))) (mmv1 (congrArg Value.long (by first | exact (nI_1 _).symm | rfl | (rw [acc_s]; first | rfl | (simp only [ak2F, h_1, hmc, h_2, h_3, h_4, h_7, h_8, h_9, ↓reduceIte, Bool.false_eq_true]; done) | (simp only [ak2F, h_1, hmc, h_2, h_3, h_4, h_7, h_8, h_9, ↓reduceIte, Bool.false_eq_true]; rfl))))) (mmv5 (congrArg Value.int (by first | exact (nI_1 _).symm | rfl | (rw [acc_s]; first | rfl | (simp only [ak2F, h_1, hmc, h_2, h_3, h_4, h_7, h_8, h_9, ↓reduceIte, Bool.false_eq_true]; done) | (simp only [ak2F, h_1, hmc, h_2, h_3, h_4, h_7, h_8, h_9, ↓reduceIte, Bool.false_eq_true]; rfl))))) (mmv6 (congrArg Value.long (by first | exact (nI_1 _).symm | rfl | (rw [acc_s]; first | rfl | (simp only [ak2F, h_1, hmc, h_2, h_3, h_4, h_7, h_8, h_9, ↓reduceIte, Bool.false_eq_true]; done) | (simp only [ak2F, h_1, hmc, h_2, h_3, h_4, h_7, h_8, h_9, ↓reduceIte, Bool.false_eq_true]; rfl))))) (mmv7 (congrArg Value.int (by first | exact (nI_1 _).symm | rfl | (rw [acc_s]; first | rfl | (simp only [ak2F, h_1, hmc, h_2, h_3, h_4, h_7, h_8, h_9, ↓reduceIte, Bool.false_eq_true]; done) | (simp only [ak2F, h_1, hmc, h_2, h_3, h_4, h_7, h_8, h_9, ↓reduceIte, Bool.false_eq_true]; rfl))))) (mmv0 (congrArg Value.int (by first | exact (nI_1 _).symm | rfl | (rw [acc_s]; first | rfl | (simp only [ak2F, h_1, hmc, h_2, h_3, h_4, h_7, h_8, h_9, ↓reduceIte, Bool.false_eq_true]; done) | (simp only [ak2F, h_1, hmc, h_2, h_3, h_4, h_7, h_8, h_9, ↓reduceIte, Bool.false_eq_true]; rfl))))) (ih89 (_) (by omega) (w + 1) (by omega) rfl)
                        exact ab_pm8 mm1 (mmv2 (congrArg Value.int (by rfl))) (mmv3 (congrArg Value.long (by rfl))) (mmv4 (congrArg Value.long (by rfl))) (mmv5 (congrArg Value.int (by rfl))) (mmv6 (congrArg Value.long (by rfl))) (mmv7 (congrArg Value.int (by rfl))) (mmv0 (congrArg Value.int (by rfl))) (L89 _ 0 (by omega) rfl)
                  exact ab_pm7 mm2 (mmv3 (congrArg Value.int (by rfl))) (mmv4 (congrArg Value.long (by rfl))) (mmv5 (congrArg Value.long (by rfl))) (mmv6 (congrArg Value.int (by rfl))) (mmv1 (congrArg Value.long (by rfl))) (mmv0 (congrArg Value.int (by rfl))) (L79 _ 0 (by omega) rfl)
            exact ab_pm5 mm1 (mmv2 (congrArg Value.int (by rfl))) (mmv3 (congrArg Value.long (by rfl))) (mmv4 (congrArg Value.long (by rfl))) (mmv0 (congrArg Value.int (by rfl))) (L66 _ 0 (by omega) rfl)
          ·
            have hlti_ := ctL (N := nw) h_3 (by exact hw) (by omega) (by omega)
            refine ab_lload hX dX12_allKnow_41 mm3 ?_
            refine ab_aload_n hX dX12_allKnow_43 mm0 ?_
            refine ab_lload_n hX dX12_allKnow_44 mm2 ?_
            refine ab_aload_n hX dX12_allKnow_45 mm0 ?_
            refine ab_getfield hX dX12_allKnow_46 (fs_X12_61_13 rfl) (mg_o hA) rfl ?_
            refine ab_iload hX dX12_allKnow_49 mm4 ?_
            refine ab_callV3r hX dX12_allKnow_51 (mg_o hA) ss_X12_allKnow_199 (cm_X12_like hG hA rfl (by omega)) (Nat.le_of_ble_eq_true rfl) ?_
            refine ab_lor hX dX12_allKnow_54 ?_
            refine ab_lstore hX dX12_allKnow_55 (by decide) rfl ?_
            refine ab_iinc hX dX12_allKnow_57 mm4 rfl (by decide) rfl ?_
            refine ab_goto (tgt := 32) hX dX12_allKnow_60 (by decide) ?_
            exact ab_pm5 mm2 (mmv3 (congrArg Value.int (by first | exact (nI_1 _).symm | rfl | (rw [acc_s]; first | rfl | (simp only [ak0F, h_1, hmc, h_2, h_3, ↓reduceIte, Bool.false_eq_true]; done) | (simp only [ak0F, h_1, hmc, h_2, h_3, ↓reduceIte, Bool.false_eq_true]; rfl))))) (mmv4 (congrArg Value.long (by first | exact (nI_1 _).symm | rfl | (rw [acc_s]; first | rfl | (simp only [ak0F, h_1, hmc, h_2, h_3, ↓reduceIte, Bool.false_eq_true]; done) | (simp only [ak0F, h_1, hmc, h_2, h_3, ↓reduceIte, Bool.false_eq_true]; rfl))))) (mmv1 (congrArg Value.long (by first | exact (nI_1 _).symm | rfl | (rw [acc_s]; first | rfl | (simp only [ak0F, h_1, hmc, h_2, h_3, ↓reduceIte, Bool.false_eq_true]; done) | (simp only [ak0F, h_1, hmc, h_2, h_3, ↓reduceIte, Bool.false_eq_true]; rfl))))) (mmv0 (congrArg Value.int (by first | exact (nI_1 _).symm | rfl | (rw [acc_s]; first | rfl | (simp only [ak0F, h_1, hmc, h_2, h_3, ↓reduceIte, Bool.false_eq_true]; done) | (simp only [ak0F, h_1, hmc, h_2, h_3, ↓reduceIte, Bool.false_eq_true]; rfl))))) (ih32 (_) (by omega) (i + 1) (by omega) rfl)
      exact ab_pm5 mm3 (mmv4 (congrArg Value.int (by rfl))) (mmv2 (congrArg Value.long (by rfl))) (mmv1 (congrArg Value.long (by rfl))) (mmv0 (congrArg Value.int (by rfl))) (L32 _ 0 (by omega) rfl)
    ·
      refine ab_bipush (v := (-3)) hX dX12_allKnow_18 (by decide) ?_
      exact ab_ireturn hX hF dX12_allKnow_20 rfl (by rfl) (congrArg some (congrArg Value.int (by first | rfl | (simp only [allKnowM, akR, h_1, hmc, h_2, ↓reduceIte, Bool.false_eq_true]; done) | (simp only [allKnowM, akR, h_1, hmc, h_2, ↓reduceIte, Bool.false_eq_true]; rfl) | (unfold allKnowM; (repeat' split) <;> first | rfl | contradiction | (simp_all; done))))) (by rfl)
  ·
    refine ab_iconst (v := (-1)) hX dX12_allKnow_9 (by decide) ?_
    exact ab_ireturn hX hF dX12_allKnow_10 rfl (by rfl) (congrArg some (congrArg Value.int (by first | rfl | (simp only [allKnowM, akR, h_1, ↓reduceIte, Bool.false_eq_true]; done) | (simp only [allKnowM, akR, h_1, ↓reduceIte, Bool.false_eq_true]; rfl) | (unfold allKnowM; (repeat' split) <;> first | rfl | contradiction | (simp_all; done))))) (by rfl)
theorem cm_X12_fits {G : ab_G} (hG : ab_GG G) {A : List ab_E} {s : MS} {B : List ab_E} (hA : A.length = 42) {d : Int32} {nl nw ns : Nat} (hI : mI s nl nw ns) (hSh : shI s) : ab_CM G mX12_fits [.ref 42, .int d] (mH A s B) (some (.long (fitsM s nl d))) (mH A s B) := by
  refine ab_meth (l0 := [(0, .ref 42), (1, .int d)]) hG (by decide +kernel) rfl (Nat.le_of_ble_eq_true rfl) (Nat.le_refl _) (Nat.le_refl _) (fun X hX hF => ?_)
  obtain ⟨hl, hl6, hw, hw5, hs, hs10⟩ := id hI
  refine ab_iload_n hX dX12_fits_0 mm1 ?_
  refine ab_callS1r hX dX12_fits_1 ss_X12_fits_107 (cm_X12_isShelf hG) (Nat.le_of_ble_eq_true rfl) ?_
  refine ab_ifneB (tgt := 11) hX dX12_fits_4 (by decide) (fun h_1 => ?_) (fun h_1 => ?_)
  ·
    obtain ⟨j, hj, rfl⟩ := iw8 h_1
    have hjc := tn_nI (j := j) (by omega)
    refine ab_aload_n hX dX12_fits_11 mm0 ?_
    refine ab_iload_n hX dX12_fits_12 mm1 ?_
    refine ab_callV1r hX dX12_fits_13 (mg_o hA) ss_X12_fits_223 (cm_X12_noRow hG hA rfl hj) (Nat.le_of_ble_eq_true rfl) ?_
    refine ab_istore_n hX dX12_fits_16 rfl (by decide) rfl ?_
    refine ab_iload_n hX dX12_fits_17 mm0 ?_
    refine ab_ifge (tgt := 28) hX dX12_fits_18 (by decide) (fun h_2 => ?_) (fun h_2 => ?_)
    ·
      obtain ⟨n, hn, hsec⟩ := noR_row hSh hj h_2
      refine ab_aload_n hX dX12_fits_28 mm1 ?_
      refine ab_getfield hX dX12_fits_29 (fs_X12_28_13 rfl) (mg_o hA) rfl ?_
      refine ab_iload_n hX dX12_fits_32 mm2 ?_
      refine ab_iald (i := j) hX dX12_fits_33 (mg_10 hA) rfl hj (by decide) ?_
      refine ab_aload_n hX dX12_fits_34 mm1 ?_
      refine ab_getfield hX dX12_fits_35 (fs_X12_51_13 rfl) (mg_o hA) rfl ?_
      refine ab_icmple (tgt := 45) hX dX12_fits_38 (by decide) (fun h_3 => ?_) (fun h_3 => ?_)
      ·
        have hle_ : n ≤ ns := (nI_leI (by omega) (by omega)).mp (by rw [← hsec, ← hs]; exact h_3)
        refine ab_aload_n hX dX12_fits_45 mm1 ?_
        refine ab_callV0r hX dX12_fits_46 (mg_o hA) ss_X12_fits_144 (cm_X12_mayBe hG hA hI) (Nat.le_of_ble_eq_true rfl) ?_
        refine ab_lstore_n hX dX12_fits_49 rfl (by decide) rfl ?_
        refine ab_iconst (v := 0) hX dX12_fits_50 (by decide) ?_
        refine ab_istore hX dX12_fits_51 (by decide) rfl ?_
        have L53 : ∀ (k53_ : Nat) (i : Nat) (b : Int64) (hi_ : i ≤ n) (hr : ftN s j (n - i) i b = ftN s j n 0 (mayBeI s nl)), k53_ = n - i → ab_WA G mX12_fits X 53 [(0, .ref 42), (1, .int (nI j)), (3, .long b), (5, .int (nI i))] [] (mH A s B) := by
          intro k53_
          induction k53_ using Nat.strongRecOn with
          | _ k53_ ih53 =>
            intro i b hi_ hr hk53_
            refine ab_iload hX dX12_fits_53 mm3 ?_
            refine ab_aload_n hX dX12_fits_55 mm0 ?_
            refine ab_getfield hX dX12_fits_56 (fs_X12_28_13 rfl) (mg_o hA) rfl ?_
            refine ab_iload_n hX dX12_fits_59 mm1 ?_
            refine ab_iald (i := j) hX dX12_fits_60 (mg_10 hA) rfl hj (by decide) ?_
            refine ab_icmpge (tgt := 147) hX dX12_fits_61 (by decide) (fun h_4 => ?_) (fun h_4 => ?_)
            ·
              have hx_ := ctE (N := n) h_4 (by exact hsec) (by omega) (by omega)
              obtain rfl : n = i := by omega
              refine ab_lload_n hX dX12_fits_147 mm2 ?_
              exact ab_lreturn hX hF dX12_fits_148 rfl (congrArg some (congrArg Value.long (by rw [Nat.sub_self] at hr; simp only [fitsM, h_1, hjc, h_2, h_3, h_4, ↓reduceIte]; rw [hsec, tn_nI (by omega), ← hr]; rfl))) (by rfl)
            ·
              have hlt_ := ctL (N := n) h_4 (by exact hsec) (by omega) (by omega)
              have en_ : n - i = (n - (i + 1)) + 1 := by omega
              rw [en_] at hr
              refine ab_aload_n hX dX12_fits_64 mm0 ?_
              refine ab_getfield hX dX12_fits_65 (fs_X12_31_13 rfl) (mg_o hA) rfl ?_
              refine ab_bipush (v := 100) hX dX12_fits_68 (by decide) ?_
              refine ab_iload_n hX dX12_fits_70 mm1 ?_
              refine ab_imul hX dX12_fits_71 ?_
              refine ab_iload hX dX12_fits_72 mm3 ?_
              refine ab_iadd hX dX12_fits_74 ?_
              refine ab_iald (i := (100 * j + i)) hX dX12_fits_75 (mg_11 hA) (ix100 j i) (by omega) (by decide) ?_
              refine ab_istore hX dX12_fits_76 (by decide) rfl ?_
              refine ab_iload hX dX12_fits_78 mm0 ?_
              refine ab_aload_n hX dX12_fits_80 mm1 ?_
              refine ab_iload_n hX dX12_fits_81 mm2 ?_
              refine ab_callV1r hX dX12_fits_82 (mg_o hA) ss_X12_fits_230 (cm_X12_leastOf hG hA rfl hj) (Nat.le_of_ble_eq_true rfl) ?_
              refine ab_icmpne (tgt := 91) hX dX12_fits_85 (by decide) (fun h_5 => ?_) (fun h_5 => ?_)
              ·
                refine ab_iload hX dX12_fits_91 mm0 ?_
                refine ab_iconst (v := 0) hX dX12_fits_93 (by decide) ?_
                refine ab_iconst (v := 1) hX dX12_fits_94 (by decide) ?_
                refine ab_callS3r hX dX12_fits_95 ss_X12_fits_43 (cm_X12_within hG) (Nat.le_of_ble_eq_true rfl) ?_
                refine ab_ifneB (tgt := 105) hX dX12_fits_98 (by decide) (fun h_6 => ?_) (fun h_6 => ?_)
                ·
                  refine ab_lload_n hX dX12_fits_105 mm3 ?_
                  refine ab_iload hX dX12_fits_106 mm0 ?_
                  refine ab_iconst (v := 1) hX dX12_fits_108 (by decide) ?_
                  refine ab_icmpne (tgt := 125) hX dX12_fits_109 (by decide) (fun h_7 => ?_) (fun h_7 => ?_)
                  ·
                    refine ab_aload_n hX dX12_fits_125 mm1 ?_
                    refine ab_getfield hX dX12_fits_126 (fs_X12_16_13 rfl) (mg_o hA) rfl ?_
                    refine ab_iload hX dX12_fits_129 mm4 ?_
                    refine ab_iald (i := i) hX dX12_fits_131 (mg_6 hA) rfl (by omega) (by decide) ?_
                    refine ab_callS1r hX dX12_fits_132 ss_X12_fits_140 (cm_X12_worldsOf hG) (Nat.le_of_ble_eq_true rfl) ?_
                    refine ab_ldc2 hX dX12_fits_135 tw_1227 ?_
                    refine ab_lxor hX dX12_fits_138 ?_
                    refine ab_land hX dX12_fits_139 ?_
                    refine ab_lstore_n hX dX12_fits_140 rfl (by decide) rfl ?_
                    refine ab_iinc hX dX12_fits_141 mm4 rfl (by decide) rfl ?_
                    refine ab_goto (tgt := 53) hX dX12_fits_144 (by decide) ?_
                    exact ab_pm4 mm3 (mmv4 (congrArg Value.int (by rfl))) mm1 (mmv0 (congrArg Value.int (by exact (nI_1 _).symm))) (ih53 (_) (by omega) (i + 1) _ (by omega) (by rw [← hr, ftN_s]; (repeat' split) <;> first | rfl | contradiction | (simp_all; done)) rfl)
                  ·
                    refine ab_aload_n hX dX12_fits_112 mm1 ?_
                    refine ab_getfield hX dX12_fits_113 (fs_X12_16_13 rfl) (mg_o hA) rfl ?_
                    refine ab_iload hX dX12_fits_116 mm4 ?_
                    refine ab_iald (i := i) hX dX12_fits_118 (mg_6 hA) rfl (by omega) (by decide) ?_
                    refine ab_callS1r hX dX12_fits_119 ss_X12_fits_140 (cm_X12_worldsOf hG) (Nat.le_of_ble_eq_true rfl) ?_
                    refine ab_goto (tgt := 139) hX dX12_fits_122 (by decide) ?_
                    refine ab_land hX dX12_fits_139 ?_
                    refine ab_lstore_n hX dX12_fits_140 rfl (by decide) rfl ?_
                    refine ab_iinc hX dX12_fits_141 mm4 rfl (by decide) rfl ?_
                    refine ab_goto (tgt := 53) hX dX12_fits_144 (by decide) ?_
                    exact ab_pm4 mm3 (mmv4 (congrArg Value.int (by rfl))) mm1 (mmv0 (congrArg Value.int (by exact (nI_1 _).symm))) (ih53 (_) (by omega) (i + 1) _ (by omega) (by rw [← hr, ftN_s]; (repeat' split) <;> first | rfl | contradiction | (simp_all; done)) rfl)
                ·
                  refine ab_ldc2 hX dX12_fits_101 tw_1355 ?_
                  exact ab_lreturn hX hF dX12_fits_104 rfl (congrArg some (congrArg Value.long (by simp only [fitsM, h_1, hjc, h_2, h_3, h_4, h_5, h_6, ↓reduceIte]; rw [hsec, tn_nI (by omega), ← hr]; simp only [ftN, h_1, hjc, h_2, h_3, h_4, h_5, h_6, ↓reduceIte, Bool.false_eq_true]))) (by rfl)
              ·
                refine ab_goto (tgt := 141) hX dX12_fits_88 (by decide) ?_
                refine ab_iinc hX dX12_fits_141 mm4 rfl (by decide) rfl ?_
                refine ab_goto (tgt := 53) hX dX12_fits_144 (by decide) ?_
                exact ab_pm4 mm2 (mmv3 (congrArg Value.int (by rfl))) mm4 (mmv0 (congrArg Value.int (by exact (nI_1 _).symm))) (ih53 (_) (by omega) (i + 1) _ (by omega) (by rw [← hr, ftN_s]; (repeat' split) <;> first | rfl | contradiction | (simp_all; done)) rfl)
        exact ab_pm4 mm3 (mmv4 (congrArg Value.int (by rfl))) mm1 (mmv0 (congrArg Value.int (by rfl))) (L53 _ 0 _ (by omega) rfl rfl)
      ·
        refine ab_ldc2 hX dX12_fits_41 tw_1355 ?_
        exact ab_lreturn hX hF dX12_fits_44 rfl (congrArg some (congrArg Value.long (by first | rfl | (simp only [fitsM, h_1, hjc, h_2, h_3, ↓reduceIte, Bool.false_eq_true]; done) | (simp only [fitsM, h_1, hjc, h_2, h_3, ↓reduceIte, Bool.false_eq_true]; rfl) | (unfold fitsM; (repeat' split) <;> first | rfl | contradiction | (simp_all; done))))) (by rfl)
    ·
      refine ab_ldc2 hX dX12_fits_21 tw_1354 ?_
      refine ab_iload_n hX dX12_fits_24 mm0 ?_
      refine ab_i2l hX dX12_fits_25 ?_
      refine ab_lsub hX dX12_fits_26 ?_
      exact ab_lreturn hX hF dX12_fits_27 rfl (congrArg some (congrArg Value.long (by simp only [fitsM, h_1, hjc, h_2, ↓reduceIte]))) (by rfl)
  ·
    refine ab_ldc2 hX dX12_fits_7 tw_1223 ?_
    exact ab_lreturn hX hF dX12_fits_10 rfl (congrArg some (congrArg Value.long (by first | rfl | (simp only [fitsM, h_1, ↓reduceIte, Bool.false_eq_true]; done) | (simp only [fitsM, h_1, ↓reduceIte, Bool.false_eq_true]; rfl) | (unfold fitsM; (repeat' split) <;> first | rfl | contradiction | (simp_all; done))))) (by rfl)
theorem cm_X12_judge {G : ab_G} (hG : ab_GG G) {A : List ab_E} {s : MS} {B : List ab_E} (hA : A.length = 42) {d : Int32} {nl nw ns : Nat} (hI : mI s nl nw ns) (hSh : shI s) : ab_CM G mX12_judge [.ref 42, .int d] (mH A s B) (some (.int (judgeM s nl ns d))) (mH A s B) := by
  refine ab_meth (l0 := [(0, .ref 42), (1, .int d)]) hG (by decide +kernel) rfl (Nat.le_of_ble_eq_true rfl) (Nat.le_refl _) (Nat.le_refl _) (fun X hX hF => ?_)
  obtain ⟨hl, hl6, hw, hw5, hs, hs10⟩ := id hI
  refine ab_iload_n hX dX12_judge_0 mm1 ?_
  refine ab_callS1r hX dX12_judge_1 ss_X12_judge_107 (cm_X12_isShelf hG) (Nat.le_of_ble_eq_true rfl) ?_
  refine ab_ifneB (tgt := 9) hX dX12_judge_4 (by decide) (fun h_1 => ?_) (fun h_1 => ?_)
  ·
    obtain ⟨j, hj, rfl⟩ := iw8 h_1
    have hjc := tn_nI (j := j) (by omega)
    refine ab_aload_n hX dX12_judge_9 mm0 ?_
    refine ab_iload_n hX dX12_judge_10 mm1 ?_
    refine ab_callV1r hX dX12_judge_11 (mg_o hA) ss_X12_judge_223 (cm_X12_noRow hG hA rfl hj) (Nat.le_of_ble_eq_true rfl) ?_
    refine ab_istore_n hX dX12_judge_14 rfl (by decide) rfl ?_
    refine ab_iload_n hX dX12_judge_15 mm0 ?_
    refine ab_ifge (tgt := 21) hX dX12_judge_16 (by decide) (fun h_2 => ?_) (fun h_2 => ?_)
    ·
      obtain ⟨n, hn, hsec⟩ := noR_row hSh hj h_2
      refine ab_iconst (v := 0) hX dX12_judge_21 (by decide) ?_
      refine ab_istore_n hX dX12_judge_22 rfl (by decide) rfl ?_
      have L23 : ∀ (k23_ : Nat) (i : Nat) (hi_ : i ≤ n) (hr : jdN s nl ns j (n - i) i = jdN s nl ns j n 0), k23_ = n - i → ab_WA G mX12_judge X 23 [(0, .ref 42), (1, .int (nI j)), (3, .int (nI i))] [] (mH A s B) := by
        intro k23_
        induction k23_ using Nat.strongRecOn with
        | _ k23_ ih23 =>
          intro i hi_ hr hk23_
          refine ab_iload_n hX dX12_judge_23 mm2 ?_
          refine ab_aload_n hX dX12_judge_24 mm0 ?_
          refine ab_getfield hX dX12_judge_25 (fs_X12_28_13 rfl) (mg_o hA) rfl ?_
          refine ab_iload_n hX dX12_judge_28 mm1 ?_
          refine ab_iald (i := j) hX dX12_judge_29 (mg_10 hA) rfl hj (by decide) ?_
          refine ab_icmpge (tgt := 89) hX dX12_judge_30 (by decide) (fun h_3 => ?_) (fun h_3 => ?_)
          ·
            have hx_ := ctE (N := n) h_3 (by exact hsec) (by omega) (by omega)
            obtain rfl : n = i := by omega
            refine ab_bipush (v := (-4)) hX dX12_judge_89 (by decide) ?_
            exact ab_ireturn hX hF dX12_judge_91 rfl (by rfl) (congrArg some (congrArg Value.int (by rw [Nat.sub_self] at hr; simp only [judgeM, h_1, hjc, h_2, h_3, ↓reduceIte]; rw [hsec, tn_nI (by omega), ← hr]; rfl))) (by rfl)
          ·
            have hlt_ := ctL (N := n) h_3 (by exact hsec) (by omega) (by omega)
            have en_ : n - i = (n - (i + 1)) + 1 := by omega
            rw [en_] at hr
            refine ab_aload_n hX dX12_judge_33 mm0 ?_
            refine ab_getfield hX dX12_judge_34 (fs_X12_31_13 rfl) (mg_o hA) rfl ?_
            refine ab_bipush (v := 100) hX dX12_judge_37 (by decide) ?_
            refine ab_iload_n hX dX12_judge_39 mm1 ?_
            refine ab_imul hX dX12_judge_40 ?_
            refine ab_iload_n hX dX12_judge_41 mm2 ?_
            refine ab_iadd hX dX12_judge_42 ?_
            refine ab_iald (i := (100 * j + i)) hX dX12_judge_43 (mg_11 hA) (ix100 j i) (by omega) (by decide) ?_
            refine ab_istore hX dX12_judge_44 (by decide) rfl ?_
            refine ab_iload hX dX12_judge_46 mm0 ?_
            refine ab_aload_n hX dX12_judge_48 mm1 ?_
            refine ab_iload_n hX dX12_judge_49 mm2 ?_
            refine ab_callV1r hX dX12_judge_50 (mg_o hA) ss_X12_judge_230 (cm_X12_leastOf hG hA rfl hj) (Nat.le_of_ble_eq_true rfl) ?_
            refine ab_icmpeq (tgt := 83) hX dX12_judge_53 (by decide) (fun h_4 => ?_) (fun h_4 => ?_)
            ·
              refine ab_iinc hX dX12_judge_83 mm3 rfl (by decide) rfl ?_
              refine ab_goto (tgt := 23) hX dX12_judge_86 (by decide) ?_
              exact ab_pm3 mm2 (mmv3 (congrArg Value.int (by first | rfl | exact (nI_1 _).symm))) (mmv0 (congrArg Value.int (by first | rfl | exact (nI_1 _).symm))) (ih23 (_) (by omega) (i + 1) (by omega) (by rw [← hr, jdN_s]; (repeat' split) <;> first | rfl | contradiction | (simp_all; done)) rfl)
            ·
              refine ab_iload_n hX dX12_judge_56 mm3 ?_
              refine ab_aload_n hX dX12_judge_57 mm1 ?_
              refine ab_getfield hX dX12_judge_58 (fs_X12_51_13 rfl) (mg_o hA) rfl ?_
              refine ab_icmpgt (tgt := 81) hX dX12_judge_61 (by decide) (fun h_5 => ?_) (fun h_5 => ?_)
              ·
                refine ab_iload_n hX dX12_judge_81 mm3 ?_
                exact ab_ireturn hX hF dX12_judge_82 rfl (by rfl) (congrArg some (congrArg Value.int (by simp only [judgeM, h_1, hjc, h_2, h_3, h_4, h_5, ↓reduceIte]; rw [hsec, tn_nI (by omega), ← hr]; simp only [jdN, h_1, hjc, h_2, h_3, h_4, h_5, ↓reduceIte]))) (by rfl)
              ·
                refine ab_iload hX dX12_judge_64 mm0 ?_
                refine ab_aload_n hX dX12_judge_66 mm1 ?_
                refine ab_iconst (v := 1) hX dX12_judge_67 (by decide) ?_
                refine ab_iload_n hX dX12_judge_68 mm3 ?_
                refine ab_ishl hX dX12_judge_69 ?_
                refine ab_iconst (v := 1) hX dX12_judge_70 (by decide) ?_
                refine ab_isub hX dX12_judge_71 ?_
                refine ab_callV1r hX dX12_judge_72 (mg_o hA) ss_X12_judge_148 (cm_X12_leftBy hG hA hI) (Nat.le_of_ble_eq_true rfl) ?_
                refine ab_callS1r hX dX12_judge_75 ss_X12_judge_156 (cm_J13_bitCount_95d88 hG) (Nat.le_of_ble_eq_true rfl) ?_
                refine ab_icmpeq (tgt := 83) hX dX12_judge_78 (by decide) (fun h_6 => ?_) (fun h_6 => ?_)
                ·
                  refine ab_iinc hX dX12_judge_83 mm3 rfl (by decide) rfl ?_
                  refine ab_goto (tgt := 23) hX dX12_judge_86 (by decide) ?_
                  exact ab_pm3 mm2 (mmv3 (congrArg Value.int (by first | rfl | exact (nI_1 _).symm))) (mmv0 (congrArg Value.int (by first | rfl | exact (nI_1 _).symm))) (ih23 (_) (by omega) (i + 1) (by omega) (by rw [← hr, jdN_s]; (repeat' split) <;> first | rfl | contradiction | (simp_all; done)) rfl)
                ·
                  refine ab_iload_n hX dX12_judge_81 mm3 ?_
                  exact ab_ireturn hX hF dX12_judge_82 rfl (by rfl) (congrArg some (congrArg Value.int (by simp only [judgeM, h_1, hjc, h_2, h_3, h_4, h_5, h_6, ↓reduceIte]; rw [hsec, tn_nI (by omega), ← hr]; simp only [jdN, h_1, hjc, h_2, h_3, h_4, h_5, h_6, ↓reduceIte]))) (by rfl)
      exact ab_pm3 mm2 (mmv3 (congrArg Value.int (by rfl))) (mmv0 (congrArg Value.int (by rfl))) (L23 _ 0 (by omega) rfl rfl)
    ·
      refine ab_iload_n hX dX12_judge_19 mm0 ?_
      exact ab_ireturn hX hF dX12_judge_20 rfl (by rfl) (congrArg some (congrArg Value.int (by first | rfl | (simp only [judgeM, h_1, hjc, h_2, ↓reduceIte, Bool.false_eq_true]; done) | (simp only [judgeM, h_1, hjc, h_2, ↓reduceIte, Bool.false_eq_true]; rfl) | (unfold judgeM; (repeat' split) <;> first | rfl | contradiction | (simp_all; done))))) (by rfl)
  ·
    refine ab_iconst (v := (-1)) hX dX12_judge_7 (by decide) ?_
    exact ab_ireturn hX hF dX12_judge_8 rfl (by rfl) (congrArg some (congrArg Value.int (by first | rfl | (simp only [judgeM, h_1, ↓reduceIte, Bool.false_eq_true]; done) | (simp only [judgeM, h_1, ↓reduceIte, Bool.false_eq_true]; rfl) | (unfold judgeM; (repeat' split) <;> first | rfl | contradiction | (simp_all; done))))) (by rfl)
theorem cm_X12_count {G : ab_G} (hG : ab_GG G) {A : List ab_E} {s : MS} {B : List ab_E} (hA : A.length = 42) {what : Int32} {nl nw ns : Nat} (hI : mI s nl nw ns)  : ab_CM G mX12_count [.ref 42, .int what] (mH A s B) (some (.int (countM s nl ns what))) (mH A s B) := by
  refine ab_meth (l0 := [(0, .ref 42), (1, .int what)]) hG (by decide +kernel) rfl (Nat.le_of_ble_eq_true rfl) (Nat.le_refl _) (Nat.le_refl _) (fun X hX hF => ?_)
  obtain ⟨hl, hl6, hw, hw5, hs, hs10⟩ := id hI
  refine ab_iconst (v := 0) hX dX12_count_0 (by decide) ?_
  refine ab_istore_n hX dX12_count_1 rfl (by decide) rfl ?_
  refine ab_iload_n hX dX12_count_2 mm2 ?_
  rcases ab_sw0_6 (what) with h_1 | h_1 | h_1 | h_1 | h_1 | h_1 | h_1 | h_1
  ·
    refine ab_tsIn (tgt := 44) hX dX12_count_3 (by rw [h_1]; decide) (by rw [h_1]; decide) (off := 41) (by rw [h_1]; rfl) (by decide) ?_
    refine ab_aload_n hX dX12_count_44 mm1 ?_
    refine ab_getfield hX dX12_count_45 (fs_X12_94_13 rfl) (mg_o hA) rfl ?_
    exact ab_ireturn hX hF dX12_count_48 rfl (by rfl) (congrArg some (congrArg Value.int (by first | rfl | (simp only [countM, h_1, ↓reduceIte, Bool.false_eq_true]; done) | (simp only [countM, h_1, ↓reduceIte, Bool.false_eq_true]; rfl) | (unfold countM; (repeat' split) <;> first | rfl | contradiction | (simp_all; done))))) (by rfl)
  ·
    refine ab_tsIn (tgt := 49) hX dX12_count_3 (by rw [h_1]; decide) (by rw [h_1]; decide) (off := 46) (by rw [h_1]; rfl) (by decide) ?_
    refine ab_aload_n hX dX12_count_49 mm1 ?_
    refine ab_getfield hX dX12_count_50 (fs_X12_47_13 rfl) (mg_o hA) rfl ?_
    exact ab_ireturn hX hF dX12_count_53 rfl (by rfl) (congrArg some (congrArg Value.int (by first | rfl | (simp only [countM, h_1, ↓reduceIte, Bool.false_eq_true]; done) | (simp only [countM, h_1, ↓reduceIte, Bool.false_eq_true]; rfl) | (unfold countM; (repeat' split) <;> first | rfl | contradiction | (simp_all; done))))) (by rfl)
  ·
    refine ab_tsIn (tgt := 54) hX dX12_count_3 (by rw [h_1]; decide) (by rw [h_1]; decide) (off := 51) (by rw [h_1]; rfl) (by decide) ?_
    refine ab_aload_n hX dX12_count_54 mm1 ?_
    refine ab_getfield hX dX12_count_55 (fs_X12_51_13 rfl) (mg_o hA) rfl ?_
    exact ab_ireturn hX hF dX12_count_58 rfl (by rfl) (congrArg some (congrArg Value.int (by first | rfl | (simp only [countM, h_1, ↓reduceIte, Bool.false_eq_true]; done) | (simp only [countM, h_1, ↓reduceIte, Bool.false_eq_true]; rfl) | (unfold countM; (repeat' split) <;> first | rfl | contradiction | (simp_all; done))))) (by rfl)
  ·
    refine ab_tsIn (tgt := 59) hX dX12_count_3 (by rw [h_1]; decide) (by rw [h_1]; decide) (off := 56) (by rw [h_1]; rfl) (by decide) ?_
    refine ab_aload_n hX dX12_count_59 mm1 ?_
    refine ab_getfield hX dX12_count_60 (fs_X12_61_13 rfl) (mg_o hA) rfl ?_
    exact ab_ireturn hX hF dX12_count_63 rfl (by rfl) (congrArg some (congrArg Value.int (by first | rfl | (simp only [countM, h_1, ↓reduceIte, Bool.false_eq_true]; done) | (simp only [countM, h_1, ↓reduceIte, Bool.false_eq_true]; rfl) | (unfold countM; (repeat' split) <;> first | rfl | contradiction | (simp_all; done))))) (by rfl)
  ·
    refine ab_tsIn (tgt := 64) hX dX12_count_3 (by rw [h_1]; decide) (by rw [h_1]; decide) (off := 61) (by rw [h_1]; rfl) (by decide) ?_
    refine ab_iconst (v := 0) hX dX12_count_64 (by decide) ?_
    refine ab_istore_n hX dX12_count_65 rfl (by decide) rfl ?_
    have L66 : ∀ (k66_ : Nat) (i : Nat) (hi_ : i ≤ ns), k66_ = ns - i → ab_WA G mX12_count X 66 [(0, .ref 42), (2, .int (acc (ctF s) 0 i)), (3, .int (nI i))] [] (mH A s B) := by
      intro k66_
      induction k66_ using Nat.strongRecOn with
      | _ k66_ ih66 =>
        intro i hi_ hk66_
        refine ab_iload_n hX dX12_count_66 mm2 ?_
        refine ab_aload_n hX dX12_count_67 mm0 ?_
        refine ab_getfield hX dX12_count_68 (fs_X12_51_13 rfl) (mg_o hA) rfl ?_
        refine ab_icmpge (tgt := 92) hX dX12_count_71 (by decide) (fun h_2 => ?_) (fun h_2 => ?_)
        ·
          have hx_ := ctE (N := ns) h_2 (by exact hs) (by omega) (by omega)
          obtain rfl : ns = i := by omega
          refine ab_iload_n hX dX12_count_92 mm1 ?_
          exact ab_ireturn hX hF dX12_count_93 rfl (by rfl) (congrArg some (congrArg Value.int (by first | rfl | (simp only [countM, h_1, h_2, ↓reduceIte, Bool.false_eq_true]; done) | (simp only [countM, h_1, h_2, ↓reduceIte, Bool.false_eq_true]; rfl) | (unfold countM; (repeat' split) <;> first | rfl | contradiction | (simp_all; done))))) (by rfl)
        ·
          have hlt_ := ctL (N := ns) h_2 (by exact hs) (by omega) (by omega)
          refine ab_iload_n hX dX12_count_74 mm1 ?_
          refine ab_aload_n hX dX12_count_75 mm0 ?_
          refine ab_getfield hX dX12_count_76 (fs_X12_16_13 rfl) (mg_o hA) rfl ?_
          refine ab_iload_n hX dX12_count_79 mm2 ?_
          refine ab_iald (i := i) hX dX12_count_80 (mg_6 hA) rfl (by omega) (by decide) ?_
          refine ab_callS1r hX dX12_count_81 ss_X12_count_64 (cm_X12_sizeOf hG) (Nat.le_of_ble_eq_true rfl) ?_
          refine ab_iadd hX dX12_count_84 ?_
          refine ab_istore_n hX dX12_count_85 rfl (by decide) rfl ?_
          refine ab_iinc hX dX12_count_86 mm2 rfl (by decide) rfl ?_
          refine ab_goto (tgt := 66) hX dX12_count_89 (by decide) ?_
          exact ab_pm3 mm2 (mmv1 (congrArg Value.int (by first | exact (nI_1 _).symm | rfl | (rw [acc_s]; first | rfl | (simp only [ctF, h_1, h_2, ↓reduceIte, Bool.false_eq_true]; done) | (simp only [ctF, h_1, h_2, ↓reduceIte, Bool.false_eq_true]; rfl))))) (mmv0 (congrArg Value.int (by first | exact (nI_1 _).symm | rfl | (rw [acc_s]; first | rfl | (simp only [ctF, h_1, h_2, ↓reduceIte, Bool.false_eq_true]; done) | (simp only [ctF, h_1, h_2, ↓reduceIte, Bool.false_eq_true]; rfl))))) (ih66 (_) (by omega) (i + 1) (by omega) rfl)
    exact ab_pm3 mm2 (mmv1 (congrArg Value.int (by rfl))) (mmv0 (congrArg Value.int (by rfl))) (L66 _ 0 (by omega) rfl)
  ·
    refine ab_tsIn (tgt := 94) hX dX12_count_3 (by rw [h_1]; decide) (by rw [h_1]; decide) (off := 91) (by rw [h_1]; rfl) (by decide) ?_
    refine ab_aload_n hX dX12_count_94 mm1 ?_
    refine ab_callV0r hX dX12_count_95 (mg_o hA) ss_X12_count_144 (cm_X12_mayBe hG hA hI) (Nat.le_of_ble_eq_true rfl) ?_
    refine ab_aload_n hX dX12_count_98 mm1 ?_
    refine ab_getfield hX dX12_count_99 (fs_X12_61_13 rfl) (mg_o hA) rfl ?_
    refine ab_lshr hX dX12_count_102 ?_
    refine ab_lconst (v := 1) hX dX12_count_103 rfl ?_
    refine ab_land hX dX12_count_104 ?_
    refine ab_l2i hX dX12_count_105 ?_
    exact ab_ireturn hX hF dX12_count_106 rfl (by rfl) (congrArg some (congrArg Value.int (by first | rfl | (simp only [countM, h_1, ↓reduceIte, Bool.false_eq_true]; done) | (simp only [countM, h_1, ↓reduceIte, Bool.false_eq_true]; rfl) | (unfold countM; (repeat' split) <;> first | rfl | contradiction | (simp_all; done))))) (by rfl)
  ·
    refine ab_tsIn (tgt := 107) hX dX12_count_3 (by rw [h_1]; decide) (by rw [h_1]; decide) (off := 104) (by rw [h_1]; rfl) (by decide) ?_
    refine ab_aload_n hX dX12_count_107 mm1 ?_
    refine ab_callV0r hX dX12_count_108 (mg_o hA) ss_X12_count_153 (cm_X12_left hG hA hI) (Nat.le_of_ble_eq_true rfl) ?_
    refine ab_aload_n hX dX12_count_111 mm1 ?_
    refine ab_getfield hX dX12_count_112 (fs_X12_61_13 rfl) (mg_o hA) rfl ?_
    refine ab_lshr hX dX12_count_115 ?_
    refine ab_lconst (v := 1) hX dX12_count_116 rfl ?_
    refine ab_land hX dX12_count_117 ?_
    refine ab_l2i hX dX12_count_118 ?_
    exact ab_ireturn hX hF dX12_count_119 rfl (by rfl) (congrArg some (congrArg Value.int (by first | rfl | (simp only [countM, h_1, ↓reduceIte, Bool.false_eq_true]; done) | (simp only [countM, h_1, ↓reduceIte, Bool.false_eq_true]; rfl) | (unfold countM; (repeat' split) <;> first | rfl | contradiction | (simp_all; done))))) (by rfl)
  ·
    refine ab_tsOut (tgt := 120) hX dX12_count_3 h_1.1 (by decide) ?_
    refine ab_iconst (v := (-1)) hX dX12_count_120 (by decide) ?_
    exact ab_ireturn hX hF dX12_count_121 rfl (by rfl) (congrArg some (congrArg Value.int (by first | rfl | (simp only [countM, h_1, ↓reduceIte, Bool.false_eq_true]; done) | (simp only [countM, h_1, ↓reduceIte, Bool.false_eq_true]; rfl) | (unfold countM; (repeat' split) <;> first | rfl | contradiction | (simp_all; done))))) (by rfl)
theorem cm_X12_law {G : ab_G} (hG : ab_GG G) {A : List ab_E} {s : MS} {B : List ab_E} (hA : A.length = 42) {k : Int32} {what : Int32} {nl nw ns : Nat} (hI : mI s nl nw ns)  : ab_CM G mX12_law [.ref 42, .int k, .int what] (mH A s B) (some (.int (lawM s k what))) (mH A s B) := by
  refine ab_meth (l0 := [(0, .ref 42), (1, .int k), (2, .int what)]) hG (by decide +kernel) rfl (Nat.le_of_ble_eq_true rfl) (Nat.le_refl _) (Nat.le_refl _) (fun X hX hF => ?_)
  obtain ⟨hl, hl6, hw, hw5, hs, hs10⟩ := id hI
  refine ab_iload_n hX dX12_law_0 mm1 ?_
  refine ab_iconst (v := 0) hX dX12_law_1 (by decide) ?_
  refine ab_aload_n hX dX12_law_2 mm0 ?_
  refine ab_getfield hX dX12_law_3 (fs_X12_94_13 rfl) (mg_o hA) rfl ?_
  refine ab_iconst (v := 1) hX dX12_law_6 (by decide) ?_
  refine ab_isub hX dX12_law_7 ?_
  refine ab_callS3r hX dX12_law_8 ss_X12_law_43 (cm_X12_within hG) (Nat.le_of_ble_eq_true rfl) ?_
  refine ab_ifeqB (tgt := 36) hX dX12_law_11 (by decide) (fun h_1 => ?_) (fun h_1 => ?_)
  ·
    refine ab_iconst (v := (-1)) hX dX12_law_36 (by decide) ?_
    exact ab_ireturn hX hF dX12_law_37 rfl (by rfl) (congrArg some (congrArg Value.int (by first | rfl | (simp only [lawM, h_1, ↓reduceIte, Bool.false_eq_true]; done) | (simp only [lawM, h_1, ↓reduceIte, Bool.false_eq_true]; rfl) | (unfold lawM; (repeat' split) <;> first | rfl | contradiction | (simp_all; done))))) (by rfl)
  ·
    obtain ⟨j, hj, rfl⟩ := iw_ex (n := nl) (by rw [hl]) (by omega) h_1
    have hjc := tn_nI (j := j) (by omega)
    refine ab_iload_n hX dX12_law_14 mm2 ?_
    refine ab_iconst (v := 0) hX dX12_law_15 (by decide) ?_
    refine ab_iconst (v := 5) hX dX12_law_16 (by decide) ?_
    refine ab_callS3r hX dX12_law_17 ss_X12_law_43 (cm_X12_within hG) (Nat.le_of_ble_eq_true rfl) ?_
    refine ab_ifeqB (tgt := 36) hX dX12_law_20 (by decide) (fun h_2 => ?_) (fun h_2 => ?_)
    ·
      refine ab_iconst (v := (-1)) hX dX12_law_36 (by decide) ?_
      exact ab_ireturn hX hF dX12_law_37 rfl (by rfl) (congrArg some (congrArg Value.int (by first | rfl | (simp only [lawM, h_1, hjc, h_2, ↓reduceIte, Bool.false_eq_true]; done) | (simp only [lawM, h_1, hjc, h_2, ↓reduceIte, Bool.false_eq_true]; rfl) | (unfold lawM; (repeat' split) <;> first | rfl | contradiction | (simp_all; done))))) (by rfl)
    ·
      refine ab_aload_n hX dX12_law_23 mm0 ?_
      refine ab_getfield hX dX12_law_24 (fs_X12_7_13 rfl) (mg_o hA) rfl ?_
      refine ab_iload_n hX dX12_law_27 mm1 ?_
      refine ab_iald (i := j) hX dX12_law_28 (mg_2 hA) rfl (by omega) (by decide) ?_
      refine ab_iload_n hX dX12_law_29 mm2 ?_
      refine ab_callS2r hX dX12_law_30 ss_X12_law_121 (cm_X12_of hG) (Nat.le_of_ble_eq_true rfl) ?_
      refine ab_goto (tgt := 37) hX dX12_law_33 (by decide) ?_
      exact ab_ireturn hX hF dX12_law_37 rfl (by rfl) (congrArg some (congrArg Value.int (by first | rfl | (simp only [lawM, h_1, hjc, h_2, ↓reduceIte, Bool.false_eq_true]; done) | (simp only [lawM, h_1, hjc, h_2, ↓reduceIte, Bool.false_eq_true]; rfl) | (unfold lawM; (repeat' split) <;> first | rfl | contradiction | (simp_all; done))))) (by rfl)
theorem cm_X12_said {G : ab_G} (hG : ab_GG G) {A : List ab_E} {s : MS} {B : List ab_E} (hA : A.length = 42) {k : Int32} {what : Int32} {nl nw ns : Nat} (hI : mI s nl nw ns)  : ab_CM G mX12_said [.ref 42, .int k, .int what] (mH A s B) (some (.int (saidM s k what))) (mH A s B) := by
  refine ab_meth (l0 := [(0, .ref 42), (1, .int k), (2, .int what)]) hG (by decide +kernel) rfl (Nat.le_of_ble_eq_true rfl) (Nat.le_refl _) (Nat.le_refl _) (fun X hX hF => ?_)
  obtain ⟨hl, hl6, hw, hw5, hs, hs10⟩ := id hI
  refine ab_aload_n hX dX12_said_0 mm0 ?_
  refine ab_iload_n hX dX12_said_1 mm1 ?_
  refine ab_callV1r hX dX12_said_2 (mg_o hA) ss_X12_said_125 (cm_X12_isSaid hG hA) (Nat.le_of_ble_eq_true rfl) ?_
  refine ab_ifeqB (tgt := 18) hX dX12_said_5 (by decide) (fun h_1 => ?_) (fun h_1 => ?_)
  ·
    refine ab_iconst (v := (-1)) hX dX12_said_18 (by decide) ?_
    exact ab_ireturn hX hF dX12_said_19 rfl (by rfl) (congrArg some (congrArg Value.int (by first | rfl | (simp only [saidM, h_1, ↓reduceIte, Bool.false_eq_true]; done) | (simp only [saidM, h_1, ↓reduceIte, Bool.false_eq_true]; rfl) | (unfold saidM; (repeat' split) <;> first | rfl | contradiction | (simp_all; done))))) (by rfl)
  ·
    obtain ⟨j, hj, rfl⟩ := iw_ex (n := ns) (by rw [hs]) (by omega) h_1
    have hjc := tn_nI (j := j) (by omega)
    refine ab_iload_n hX dX12_said_8 mm2 ?_
    refine ab_iconst (v := 0) hX dX12_said_9 (by decide) ?_
    refine ab_bipush (v := 7) hX dX12_said_10 (by decide) ?_
    refine ab_callS3r hX dX12_said_12 ss_X12_said_43 (cm_X12_within hG) (Nat.le_of_ble_eq_true rfl) ?_
    refine ab_ifneB (tgt := 20) hX dX12_said_15 (by decide) (fun h_2 => ?_) (fun h_2 => ?_)
    ·
      refine ab_iload_n hX dX12_said_20 mm2 ?_
      refine ab_bipush (v := 6) hX dX12_said_21 (by decide) ?_
      refine ab_icmpne (tgt := 35) hX dX12_said_23 (by decide) (fun h_3 => ?_) (fun h_3 => ?_)
      ·
        refine ab_iload_n hX dX12_said_35 mm2 ?_
        refine ab_bipush (v := 7) hX dX12_said_36 (by decide) ?_
        refine ab_icmpne (tgt := 57) hX dX12_said_38 (by decide) (fun h_4 => ?_) (fun h_4 => ?_)
        ·
          refine ab_aload_n hX dX12_said_57 mm0 ?_
          refine ab_getfield hX dX12_said_58 (fs_X12_16_13 rfl) (mg_o hA) rfl ?_
          refine ab_iload_n hX dX12_said_61 mm1 ?_
          refine ab_iald (i := j) hX dX12_said_62 (mg_6 hA) rfl (by omega) (by decide) ?_
          refine ab_iload_n hX dX12_said_63 mm2 ?_
          refine ab_callS2r hX dX12_said_64 ss_X12_said_121 (cm_X12_of hG) (Nat.le_of_ble_eq_true rfl) ?_
          exact ab_ireturn hX hF dX12_said_67 rfl (by rfl) (congrArg some (congrArg Value.int (by first | rfl | (simp only [saidM, h_1, hjc, h_2, h_3, h_4, ↓reduceIte, Bool.false_eq_true]; done) | (simp only [saidM, h_1, hjc, h_2, h_3, h_4, ↓reduceIte, Bool.false_eq_true]; rfl) | (unfold saidM; (repeat' split) <;> first | rfl | contradiction | (simp_all; done))))) (by rfl)
        ·
          refine ab_aload_n hX dX12_said_41 mm0 ?_
          refine ab_iload_n hX dX12_said_42 mm1 ?_
          refine ab_callV1r hX dX12_said_43 (mg_o hA) ss_X12_said_128 (cm_X12_isSlip hG hA rfl (by omega)) (Nat.le_of_ble_eq_true rfl) ?_
          refine ab_ifeqB (tgt := 53) hX dX12_said_46 (by decide) (fun h_5 => ?_) (fun h_5 => ?_)
          ·
            refine ab_iconst (v := 0) hX dX12_said_53 (by decide) ?_
            refine ab_goto (tgt := 67) hX dX12_said_54 (by decide) ?_
            exact ab_ireturn hX hF dX12_said_67 rfl (by rfl) (congrArg some (congrArg Value.int (by first | rfl | (simp only [saidM, h_1, hjc, h_2, h_3, h_4, h_5, ↓reduceIte, Bool.false_eq_true]; done) | (simp only [saidM, h_1, hjc, h_2, h_3, h_4, h_5, ↓reduceIte, Bool.false_eq_true]; rfl) | (unfold saidM; (repeat' split) <;> first | rfl | contradiction | (simp_all; done))))) (by rfl)
          ·
            refine ab_iconst (v := 1) hX dX12_said_49 (by decide) ?_
            refine ab_goto (tgt := 67) hX dX12_said_50 (by decide) ?_
            exact ab_ireturn hX hF dX12_said_67 rfl (by rfl) (congrArg some (congrArg Value.int (by first | rfl | (simp only [saidM, h_1, hjc, h_2, h_3, h_4, h_5, ↓reduceIte, Bool.false_eq_true]; done) | (simp only [saidM, h_1, hjc, h_2, h_3, h_4, h_5, ↓reduceIte, Bool.false_eq_true]; rfl) | (unfold saidM; (repeat' split) <;> first | rfl | contradiction | (simp_all; done))))) (by rfl)
      ·
        refine ab_aload_n hX dX12_said_26 mm0 ?_
        refine ab_getfield hX dX12_said_27 (fs_X12_19_13 rfl) (mg_o hA) rfl ?_
        refine ab_iload_n hX dX12_said_30 mm1 ?_
        refine ab_iald (i := j) hX dX12_said_31 (mg_7 hA) rfl (by omega) (by decide) ?_
        refine ab_goto (tgt := 67) hX dX12_said_32 (by decide) ?_
        exact ab_ireturn hX hF dX12_said_67 rfl (by rfl) (congrArg some (congrArg Value.int (by first | rfl | (simp only [saidM, h_1, hjc, h_2, h_3, ↓reduceIte, Bool.false_eq_true]; done) | (simp only [saidM, h_1, hjc, h_2, h_3, ↓reduceIte, Bool.false_eq_true]; rfl) | (unfold saidM; (repeat' split) <;> first | rfl | contradiction | (simp_all; done))))) (by rfl)
    ·
      refine ab_iconst (v := (-1)) hX dX12_said_18 (by decide) ?_
      exact ab_ireturn hX hF dX12_said_19 rfl (by rfl) (congrArg some (congrArg Value.int (by first | rfl | (simp only [saidM, h_1, hjc, h_2, ↓reduceIte, Bool.false_eq_true]; done) | (simp only [saidM, h_1, hjc, h_2, ↓reduceIte, Bool.false_eq_true]; rfl) | (unfold saidM; (repeat' split) <;> first | rfl | contradiction | (simp_all; done))))) (by rfl)
theorem cm_X12_knows {G : ab_G} (hG : ab_GG G) {A : List ab_E} {s : MS} {B : List ab_E} (hA : A.length = 42) {w : Int32} {nl nw ns : Nat} (hI : mI s nl nw ns)  : ab_CM G mX12_knows [.ref 42, .int w] (mH A s B) (some (.int (knowsM s w))) (mH A s B) := by
  refine ab_meth (l0 := [(0, .ref 42), (1, .int w)]) hG (by decide +kernel) rfl (Nat.le_of_ble_eq_true rfl) (Nat.le_refl _) (Nat.le_refl _) (fun X hX hF => ?_)
  obtain ⟨hl, hl6, hw, hw5, hs, hs10⟩ := id hI
  refine ab_aload_n hX dX12_knows_0 mm0 ?_
  refine ab_iload_n hX dX12_knows_1 mm1 ?_
  refine ab_callV1r hX dX12_knows_2 (mg_o hA) ss_X12_knows_104 (cm_X12_isWitness hG hA) (Nat.le_of_ble_eq_true rfl) ?_
  refine ab_ifeqB (tgt := 17) hX dX12_knows_5 (by decide) (fun h_1 => ?_) (fun h_1 => ?_)
  ·
    refine ab_iconst (v := (-1)) hX dX12_knows_17 (by decide) ?_
    exact ab_ireturn hX hF dX12_knows_18 rfl (by rfl) (congrArg some (congrArg Value.int (by first | rfl | (simp only [knowsM, h_1, ↓reduceIte, Bool.false_eq_true]; done) | (simp only [knowsM, h_1, ↓reduceIte, Bool.false_eq_true]; rfl) | (unfold knowsM; (repeat' split) <;> first | rfl | contradiction | (simp_all; done))))) (by rfl)
  ·
    obtain ⟨j, hj, rfl⟩ := iw_ex (n := nw) (by rw [hw]) (by omega) h_1
    have hjc := tn_nI (j := j) (by omega)
    refine ab_aload_n hX dX12_knows_8 mm0 ?_
    refine ab_getfield hX dX12_knows_9 (fs_X12_13_13 rfl) (mg_o hA) rfl ?_
    refine ab_iload_n hX dX12_knows_12 mm1 ?_
    refine ab_iald (i := j) hX dX12_knows_13 (mg_4 hA) rfl (by omega) (by decide) ?_
    refine ab_goto (tgt := 18) hX dX12_knows_14 (by decide) ?_
    exact ab_ireturn hX hF dX12_knows_18 rfl (by rfl) (congrArg some (congrArg Value.int (by first | rfl | (simp only [knowsM, h_1, hjc, ↓reduceIte, Bool.false_eq_true]; done) | (simp only [knowsM, h_1, hjc, ↓reduceIte, Bool.false_eq_true]; rfl) | (unfold knowsM; (repeat' split) <;> first | rfl | contradiction | (simp_all; done))))) (by rfl)
theorem cm_X12_isTrue {G : ab_G} (hG : ab_GG G) {A : List ab_E} {s : MS} {B : List ab_E} (hA : A.length = 42) {d : Int32} {a : Int32} {b : Int32} {world : Int32}  : ab_CM G mX12_isTrue [.ref 42, .int d, .int a, .int b, .int world] (mH A s B) (some (.int (isTrueM s d a b world))) (mH A s B) := by
  refine ab_meth (l0 := [(0, .ref 42), (1, .int d), (2, .int a), (3, .int b), (4, .int world)]) hG (by decide +kernel) rfl (Nat.le_of_ble_eq_true rfl) (Nat.le_refl _) (Nat.le_refl _) (fun X hX hF => ?_)
  refine ab_iload_n hX dX12_isTrue_0 mm1 ?_
  refine ab_callS1r hX dX12_isTrue_1 ss_X12_isTrue_107 (cm_X12_isShelf hG) (Nat.le_of_ble_eq_true rfl) ?_
  refine ab_ifeqB (tgt := 32) hX dX12_isTrue_4 (by decide) (fun h_1 => ?_) (fun h_1 => ?_)
  ·
    refine ab_iconst (v := (-1)) hX dX12_isTrue_32 (by decide) ?_
    exact ab_ireturn hX hF dX12_isTrue_33 rfl (by rfl) (congrArg some (congrArg Value.int (by first | rfl | (simp only [isTrueM, h_1, ↓reduceIte, Bool.false_eq_true]; done) | (simp only [isTrueM, h_1, ↓reduceIte, Bool.false_eq_true]; rfl) | (unfold isTrueM; (repeat' split) <;> first | rfl | contradiction | (simp_all; done))))) (by rfl)
  ·
    obtain ⟨j, hj, rfl⟩ := iw8 h_1
    have hjc := tn_nI (j := j) (by omega)
    refine ab_iload_n hX dX12_isTrue_7 mm2 ?_
    refine ab_callS1r hX dX12_isTrue_8 ss_X12_isTrue_77 (cm_X12_isFact hG) (Nat.le_of_ble_eq_true rfl) ?_
    refine ab_ifeqB (tgt := 32) hX dX12_isTrue_11 (by decide) (fun h_2 => ?_) (fun h_2 => ?_)
    ·
      refine ab_iconst (v := (-1)) hX dX12_isTrue_32 (by decide) ?_
      exact ab_ireturn hX hF dX12_isTrue_33 rfl (by rfl) (congrArg some (congrArg Value.int (by first | rfl | (simp only [isTrueM, h_1, hjc, h_2, ↓reduceIte, Bool.false_eq_true]; done) | (simp only [isTrueM, h_1, hjc, h_2, ↓reduceIte, Bool.false_eq_true]; rfl) | (unfold isTrueM; (repeat' split) <;> first | rfl | contradiction | (simp_all; done))))) (by rfl)
    ·
      refine ab_iload_n hX dX12_isTrue_14 mm3 ?_
      refine ab_callS1r hX dX12_isTrue_15 ss_X12_isTrue_77 (cm_X12_isFact hG) (Nat.le_of_ble_eq_true rfl) ?_
      refine ab_ifeqB (tgt := 32) hX dX12_isTrue_18 (by decide) (fun h_3 => ?_) (fun h_3 => ?_)
      ·
        refine ab_iconst (v := (-1)) hX dX12_isTrue_32 (by decide) ?_
        exact ab_ireturn hX hF dX12_isTrue_33 rfl (by rfl) (congrArg some (congrArg Value.int (by first | rfl | (simp only [isTrueM, h_1, hjc, h_2, h_3, ↓reduceIte, Bool.false_eq_true]; done) | (simp only [isTrueM, h_1, hjc, h_2, h_3, ↓reduceIte, Bool.false_eq_true]; rfl) | (unfold isTrueM; (repeat' split) <;> first | rfl | contradiction | (simp_all; done))))) (by rfl)
      ·
        refine ab_iload hX dX12_isTrue_21 mm4 ?_
        refine ab_iconst (v := 0) hX dX12_isTrue_23 (by decide) ?_
        refine ab_bipush (v := 63) hX dX12_isTrue_24 (by decide) ?_
        refine ab_callS3r hX dX12_isTrue_26 ss_X12_isTrue_43 (cm_X12_within hG) (Nat.le_of_ble_eq_true rfl) ?_
        refine ab_ifneB (tgt := 34) hX dX12_isTrue_29 (by decide) (fun h_4 => ?_) (fun h_4 => ?_)
        ·
          refine ab_aload_n hX dX12_isTrue_34 mm0 ?_
          refine ab_iload_n hX dX12_isTrue_35 mm1 ?_
          refine ab_callV1r hX dX12_isTrue_36 (mg_o hA) ss_X12_isTrue_131 (cm_X12_noSaying hG hA rfl hj) (Nat.le_of_ble_eq_true rfl) ?_
          refine ab_istore hX dX12_isTrue_39 (by decide) rfl ?_
          refine ab_iload hX dX12_isTrue_41 mm0 ?_
          refine ab_ifge (tgt := 51) hX dX12_isTrue_43 (by decide) (fun h_5 => ?_) (fun h_5 => ?_)
          ·
            refine ab_aload_n hX dX12_isTrue_51 mm1 ?_
            refine ab_iload_n hX dX12_isTrue_52 mm2 ?_
            refine ab_iload_n hX dX12_isTrue_53 mm3 ?_
            refine ab_iload_n hX dX12_isTrue_54 mm4 ?_
            refine ab_callV3r hX dX12_isTrue_55 (mg_o hA) ss_X12_isTrue_134 (cm_X12_onShelf hG hA rfl hj) (Nat.le_of_ble_eq_true rfl) ?_
            refine ab_iload hX dX12_isTrue_58 mm5 ?_
            refine ab_callS2r hX dX12_isTrue_60 ss_X12_isTrue_58 (cm_X12_isTrueIn hG) (Nat.le_of_ble_eq_true rfl) ?_
            refine ab_ifeqB (tgt := 70) hX dX12_isTrue_63 (by decide) (fun h_6 => ?_) (fun h_6 => ?_)
            ·
              refine ab_iconst (v := 0) hX dX12_isTrue_70 (by decide) ?_
              exact ab_ireturn hX hF dX12_isTrue_71 rfl (by rfl) (congrArg some (congrArg Value.int (by first | rfl | (simp only [isTrueM, h_1, hjc, h_2, h_3, h_4, h_5, h_6, ↓reduceIte, Bool.false_eq_true]; done) | (simp only [isTrueM, h_1, hjc, h_2, h_3, h_4, h_5, h_6, ↓reduceIte, Bool.false_eq_true]; rfl) | (unfold isTrueM; (repeat' split) <;> first | rfl | contradiction | (simp_all; done))))) (by rfl)
            ·
              refine ab_iconst (v := 1) hX dX12_isTrue_66 (by decide) ?_
              refine ab_goto (tgt := 71) hX dX12_isTrue_67 (by decide) ?_
              exact ab_ireturn hX hF dX12_isTrue_71 rfl (by rfl) (congrArg some (congrArg Value.int (by first | rfl | (simp only [isTrueM, h_1, hjc, h_2, h_3, h_4, h_5, h_6, ↓reduceIte, Bool.false_eq_true]; done) | (simp only [isTrueM, h_1, hjc, h_2, h_3, h_4, h_5, h_6, ↓reduceIte, Bool.false_eq_true]; rfl) | (unfold isTrueM; (repeat' split) <;> first | rfl | contradiction | (simp_all; done))))) (by rfl)
          ·
            refine ab_iload hX dX12_isTrue_46 mm0 ?_
            refine ab_goto (tgt := 71) hX dX12_isTrue_48 (by decide) ?_
            exact ab_ireturn hX hF dX12_isTrue_71 rfl (by rfl) (congrArg some (congrArg Value.int (by first | rfl | (simp only [isTrueM, h_1, hjc, h_2, h_3, h_4, h_5, ↓reduceIte, Bool.false_eq_true]; done) | (simp only [isTrueM, h_1, hjc, h_2, h_3, h_4, h_5, ↓reduceIte, Bool.false_eq_true]; rfl) | (unfold isTrueM; (repeat' split) <;> first | rfl | contradiction | (simp_all; done))))) (by rfl)
        ·
          refine ab_iconst (v := (-1)) hX dX12_isTrue_32 (by decide) ?_
          exact ab_ireturn hX hF dX12_isTrue_33 rfl (by rfl) (congrArg some (congrArg Value.int (by first | rfl | (simp only [isTrueM, h_1, hjc, h_2, h_3, h_4, ↓reduceIte, Bool.false_eq_true]; done) | (simp only [isTrueM, h_1, hjc, h_2, h_3, h_4, ↓reduceIte, Bool.false_eq_true]; rfl) | (unfold isTrueM; (repeat' split) <;> first | rfl | contradiction | (simp_all; done))))) (by rfl)
theorem cm_X12_cost {G : ab_G} (hG : ab_GG G) {A : List ab_E} {s : MS} {B : List ab_E} (hA : A.length = 42) {d : Int32}  : ab_CM G mX12_cost [.ref 42, .int d] (mH A s B) (some (.int (costM s d))) (mH A s B) := by
  refine ab_meth (l0 := [(0, .ref 42), (1, .int d)]) hG (by decide +kernel) rfl (Nat.le_of_ble_eq_true rfl) (Nat.le_refl _) (Nat.le_refl _) (fun X hX hF => ?_)
  refine ab_iload_n hX dX12_cost_0 mm1 ?_
  refine ab_callS1r hX dX12_cost_1 ss_X12_cost_107 (cm_X12_isShelf hG) (Nat.le_of_ble_eq_true rfl) ?_
  refine ab_ifneB (tgt := 9) hX dX12_cost_4 (by decide) (fun h_1 => ?_) (fun h_1 => ?_)
  ·
    obtain ⟨j, hj, rfl⟩ := iw8 h_1
    have hjc := tn_nI (j := j) (by omega)
    refine ab_aload_n hX dX12_cost_9 mm0 ?_
    refine ab_iload_n hX dX12_cost_10 mm1 ?_
    refine ab_callV1r hX dX12_cost_11 (mg_o hA) ss_X12_cost_131 (cm_X12_noSaying hG hA rfl hj) (Nat.le_of_ble_eq_true rfl) ?_
    refine ab_istore_n hX dX12_cost_14 rfl (by decide) rfl ?_
    refine ab_iload_n hX dX12_cost_15 mm0 ?_
    refine ab_ifge (tgt := 23) hX dX12_cost_16 (by decide) (fun h_2 => ?_) (fun h_2 => ?_)
    ·
      refine ab_aload_n hX dX12_cost_23 mm1 ?_
      refine ab_iload_n hX dX12_cost_24 mm2 ?_
      refine ab_callV1r hX dX12_cost_25 (mg_o hA) ss_X12_cost_243 (cm_X12_costOf hG hA rfl hj) (Nat.le_of_ble_eq_true rfl) ?_
      exact ab_ireturn hX hF dX12_cost_28 rfl (by rfl) (congrArg some (congrArg Value.int (by first | rfl | (simp only [costM, h_1, hjc, h_2, ↓reduceIte, Bool.false_eq_true]; done) | (simp only [costM, h_1, hjc, h_2, ↓reduceIte, Bool.false_eq_true]; rfl) | (unfold costM; (repeat' split) <;> first | rfl | contradiction | (simp_all; done))))) (by rfl)
    ·
      refine ab_iload_n hX dX12_cost_19 mm0 ?_
      refine ab_goto (tgt := 28) hX dX12_cost_20 (by decide) ?_
      exact ab_ireturn hX hF dX12_cost_28 rfl (by rfl) (congrArg some (congrArg Value.int (by first | rfl | (simp only [costM, h_1, hjc, h_2, ↓reduceIte, Bool.false_eq_true]; done) | (simp only [costM, h_1, hjc, h_2, ↓reduceIte, Bool.false_eq_true]; rfl) | (unfold costM; (repeat' split) <;> first | rfl | contradiction | (simp_all; done))))) (by rfl)
  ·
    refine ab_iconst (v := (-1)) hX dX12_cost_7 (by decide) ?_
    exact ab_ireturn hX hF dX12_cost_8 rfl (by rfl) (congrArg some (congrArg Value.int (by first | rfl | (simp only [costM, h_1, ↓reduceIte, Bool.false_eq_true]; done) | (simp only [costM, h_1, ↓reduceIte, Bool.false_eq_true]; rfl) | (unfold costM; (repeat' split) <;> first | rfl | contradiction | (simp_all; done))))) (by rfl)
theorem cm_X12_toss {G : ab_G} (hG : ab_GG G) {A : List ab_E} {s : MS} {B : List ab_E} (hA : A.length = 42) {d : Int32}  : ab_CM G mX12_toss [.ref 42, .int d] (mH A s B) (some (.int (tossM s d))) (mH A s B) := by
  refine ab_meth (l0 := [(0, .ref 42), (1, .int d)]) hG (by decide +kernel) rfl (Nat.le_of_ble_eq_true rfl) (Nat.le_refl _) (Nat.le_refl _) (fun X hX hF => ?_)
  refine ab_iload_n hX dX12_toss_0 mm1 ?_
  refine ab_callS1r hX dX12_toss_1 ss_X12_toss_107 (cm_X12_isShelf hG) (Nat.le_of_ble_eq_true rfl) ?_
  refine ab_ifneB (tgt := 9) hX dX12_toss_4 (by decide) (fun h_1 => ?_) (fun h_1 => ?_)
  ·
    obtain ⟨j, hj, rfl⟩ := iw8 h_1
    have hjc := tn_nI (j := j) (by omega)
    refine ab_aload_n hX dX12_toss_9 mm0 ?_
    refine ab_iload_n hX dX12_toss_10 mm1 ?_
    refine ab_callV1r hX dX12_toss_11 (mg_o hA) ss_X12_toss_131 (cm_X12_noSaying hG hA rfl hj) (Nat.le_of_ble_eq_true rfl) ?_
    refine ab_istore_n hX dX12_toss_14 rfl (by decide) rfl ?_
    refine ab_iload_n hX dX12_toss_15 mm0 ?_
    refine ab_ifge (tgt := 21) hX dX12_toss_16 (by decide) (fun h_2 => ?_) (fun h_2 => ?_)
    ·
      refine ab_aload_n hX dX12_toss_21 mm1 ?_
      refine ab_getfield hX dX12_toss_22 (fs_X12_25_13 rfl) (mg_o hA) rfl ?_
      refine ab_iload_n hX dX12_toss_25 mm2 ?_
      refine ab_iald (i := j) hX dX12_toss_26 (mg_9 hA) rfl hj (by decide) ?_
      refine ab_bipush (v := 6) hX dX12_toss_27 (by decide) ?_
      refine ab_icmpeq (tgt := 41) hX dX12_toss_29 (by decide) (fun h_3 => ?_) (fun h_3 => ?_)
      ·
        refine ab_bipush (v := (-15)) hX dX12_toss_41 (by decide) ?_
        exact ab_ireturn hX hF dX12_toss_43 rfl (by rfl) (congrArg some (congrArg Value.int (by first | rfl | (simp only [tossM, h_1, hjc, h_2, h_3, ↓reduceIte, Bool.false_eq_true]; done) | (simp only [tossM, h_1, hjc, h_2, h_3, ↓reduceIte, Bool.false_eq_true]; rfl) | (unfold tossM; (repeat' split) <;> first | rfl | contradiction | (simp_all; done))))) (by rfl)
      ·
        refine ab_aload_n hX dX12_toss_32 mm1 ?_
        refine ab_getfield hX dX12_toss_33 (fs_X12_28_13 rfl) (mg_o hA) rfl ?_
        refine ab_iload_n hX dX12_toss_36 mm2 ?_
        refine ab_iald (i := j) hX dX12_toss_37 (mg_10 hA) rfl hj (by decide) ?_
        refine ab_ifne (tgt := 44) hX dX12_toss_38 (by decide) (fun h_4 => ?_) (fun h_4 => ?_)
        ·
          refine ab_aload_n hX dX12_toss_44 mm1 ?_
          refine ab_getfield hX dX12_toss_45 (fs_X12_25_13 rfl) (mg_o hA) rfl ?_
          refine ab_iload_n hX dX12_toss_48 mm2 ?_
          refine ab_iald (i := j) hX dX12_toss_49 (mg_9 hA) rfl hj (by decide) ?_
          refine ab_iconst (v := 2) hX dX12_toss_50 (by decide) ?_
          refine ab_icmpge (tgt := 63) hX dX12_toss_51 (by decide) (fun h_5 => ?_) (fun h_5 => ?_)
          ·
            refine ab_aload_n hX dX12_toss_63 mm1 ?_
            refine ab_getfield hX dX12_toss_64 (fs_X12_25_13 rfl) (mg_o hA) rfl ?_
            refine ab_iload_n hX dX12_toss_67 mm2 ?_
            refine ab_iald (i := j) hX dX12_toss_68 (mg_9 hA) rfl hj (by decide) ?_
            refine ab_bipush (v := 7) hX dX12_toss_69 (by decide) ?_
            refine ab_icmpne (tgt := 86) hX dX12_toss_71 (by decide) (fun h_6 => ?_) (fun h_6 => ?_)
            ·
              refine ab_bipush (v := 100) hX dX12_toss_86 (by decide) ?_
              refine ab_aload_n hX dX12_toss_88 mm1 ?_
              refine ab_getfield hX dX12_toss_89 (fs_X12_28_13 rfl) (mg_o hA) rfl ?_
              refine ab_iload_n hX dX12_toss_92 mm2 ?_
              refine ab_iald (i := j) hX dX12_toss_93 (mg_10 hA) rfl hj (by decide) ?_
              refine ab_iadd hX dX12_toss_94 ?_
              exact ab_ireturn hX hF dX12_toss_95 rfl (by rfl) (congrArg some (congrArg Value.int (by first | rfl | (simp only [tossM, h_1, hjc, h_2, h_3, h_4, h_5, h_6, ↓reduceIte, Bool.false_eq_true]; done) | (simp only [tossM, h_1, hjc, h_2, h_3, h_4, h_5, h_6, ↓reduceIte, Bool.false_eq_true]; rfl) | (unfold tossM; (repeat' split) <;> first | rfl | contradiction | (simp_all; done))))) (by rfl)
            ·
              refine ab_sipush (v := 200) hX dX12_toss_74 (by decide) ?_
              refine ab_aload_n hX dX12_toss_77 mm1 ?_
              refine ab_iload_n hX dX12_toss_78 mm2 ?_
              refine ab_callV1r hX dX12_toss_79 (mg_o hA) ss_X12_toss_243 (cm_X12_costOf hG hA rfl hj) (Nat.le_of_ble_eq_true rfl) ?_
              refine ab_iadd hX dX12_toss_82 ?_
              refine ab_goto (tgt := 95) hX dX12_toss_83 (by decide) ?_
              exact ab_ireturn hX hF dX12_toss_95 rfl (by rfl) (congrArg some (congrArg Value.int (by first | rfl | (simp only [tossM, h_1, hjc, h_2, h_3, h_4, h_5, h_6, ↓reduceIte, Bool.false_eq_true]; done) | (simp only [tossM, h_1, hjc, h_2, h_3, h_4, h_5, h_6, ↓reduceIte, Bool.false_eq_true]; rfl) | (unfold tossM; (repeat' split) <;> first | rfl | contradiction | (simp_all; done))))) (by rfl)
          ·
            refine ab_aload_n hX dX12_toss_54 mm1 ?_
            refine ab_getfield hX dX12_toss_55 (fs_X12_28_13 rfl) (mg_o hA) rfl ?_
            refine ab_iload_n hX dX12_toss_58 mm2 ?_
            refine ab_iald (i := j) hX dX12_toss_59 (mg_10 hA) rfl hj (by decide) ?_
            refine ab_goto (tgt := 95) hX dX12_toss_60 (by decide) ?_
            exact ab_ireturn hX hF dX12_toss_95 rfl (by rfl) (congrArg some (congrArg Value.int (by first | rfl | (simp only [tossM, h_1, hjc, h_2, h_3, h_4, h_5, ↓reduceIte, Bool.false_eq_true]; done) | (simp only [tossM, h_1, hjc, h_2, h_3, h_4, h_5, ↓reduceIte, Bool.false_eq_true]; rfl) | (unfold tossM; (repeat' split) <;> first | rfl | contradiction | (simp_all; done))))) (by rfl)
        ·
          refine ab_bipush (v := (-15)) hX dX12_toss_41 (by decide) ?_
          exact ab_ireturn hX hF dX12_toss_43 rfl (by rfl) (congrArg some (congrArg Value.int (by first | rfl | (simp only [tossM, h_1, hjc, h_2, h_3, h_4, ↓reduceIte, Bool.false_eq_true]; done) | (simp only [tossM, h_1, hjc, h_2, h_3, h_4, ↓reduceIte, Bool.false_eq_true]; rfl) | (unfold tossM; (repeat' split) <;> first | rfl | contradiction | (simp_all; done))))) (by rfl)
    ·
      refine ab_iload_n hX dX12_toss_19 mm0 ?_
      exact ab_ireturn hX hF dX12_toss_20 rfl (by rfl) (congrArg some (congrArg Value.int (by first | rfl | (simp only [tossM, h_1, hjc, h_2, ↓reduceIte, Bool.false_eq_true]; done) | (simp only [tossM, h_1, hjc, h_2, ↓reduceIte, Bool.false_eq_true]; rfl) | (unfold tossM; (repeat' split) <;> first | rfl | contradiction | (simp_all; done))))) (by rfl)
  ·
    refine ab_iconst (v := (-1)) hX dX12_toss_7 (by decide) ?_
    exact ab_ireturn hX hF dX12_toss_8 rfl (by rfl) (congrArg some (congrArg Value.int (by first | rfl | (simp only [tossM, h_1, ↓reduceIte, Bool.false_eq_true]; done) | (simp only [tossM, h_1, ↓reduceIte, Bool.false_eq_true]; rfl) | (unfold tossM; (repeat' split) <;> first | rfl | contradiction | (simp_all; done))))) (by rfl)
theorem cm_X12_thrown {G : ab_G} (hG : ab_GG G) {A : List ab_E} {s : MS} {B : List ab_E} (hA : A.length = 42)   : ab_CM G mX12_thrown [.ref 42] (mH A s B) (some (.int (s.1 21))) (mH A s B) := by
  refine ab_meth (l0 := [(0, .ref 42)]) hG (by decide +kernel) rfl (Nat.le_of_ble_eq_true rfl) (Nat.le_refl _) (Nat.le_refl _) (fun X hX hF => ?_)
  refine ab_aload_n hX dX12_thrown_0 mm0 ?_
  refine ab_getfield hX dX12_thrown_1 (fs_X12_240_13 rfl) (mg_o hA) rfl ?_
  exact ab_ireturn hX hF dX12_thrown_4 rfl (by rfl) (congrArg some (congrArg Value.int (by rfl))) (by rfl)
