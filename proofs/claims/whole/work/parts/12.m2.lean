def mI (s : MS) (nl nw ns : Nat) : Prop := s.1 1 = nI nl ∧ nl ≤ 6 ∧ s.1 3 = nI nw ∧ nw ≤ 5 ∧ s.1 5 = nI ns ∧ ns ≤ 10
def mbF (s : MS) (i : Nat) (b : Int64) : Int64 := b &&& worldsN (s.2.1 2 i) 64
def mayBeI (s : MS) (nl : Nat) : Int64 := acc (mbF s) (-1) nl
def lbF (s : MS) (set : Int32) (i : Nat) (b : Int64) : Int64 := if hasB set (nI i) = true then b &&& (worldsN (s.2.1 6 i) 64 ^^^ (-1)) else b
def leftI (s : MS) (nl ns : Nat) (set : Int32) : Int64 := acc (lbF s set) (mayBeI s nl) ns
def leftA (s : MS) (nl ns : Nat) : Int64 := leftI s nl ns ((1 : Int32) <<< (s.1 5 &&& 31) - 1)
def worldsM (s : MS) (nl ns : Nat) (what : Int32) : Int64 := if iw what 0 1 = true then (if what = 0 then mayBeI s nl else leftA s nl ns) else 4000000000000000001
def manyM (s : MS) (nl ns : Nat) (what : Int32) : Int32 := if iw what 0 1 = true then (if what = 0 then lbc (mayBeI s nl) else lbc (leftA s nl ns)) else -1
def fcF (w : Int64) (is : Int32) (i : Nat) (b : Int32) : Int32 := if (w >>> ((nI i).toInt64 &&& 63)) &&& 1 = 1 then b &&& (if is = 1 then nI i else nI i ^^^ (-1)) else b
def factsI (w : Int64) (is : Int32) : Int32 := acc (fcF w is) 63 64 &&& 63
def provedM (s : MS) (nl ns : Nat) (what : Int32) : Int32 := if iw what 0 1 = true then factsI (leftA s nl ns) (1 - what) else -1
def slF (s : MS) (i : Nat) (b : Int32) : Int32 := if isTB (s.2.1 6 i) (s.1 0) = true then b ||| (1 : Int32) <<< (nI i &&& 31) else b
def slipsM (s : MS) (ns : Nat) (what : Int32) : Int32 := if iw what 0 1 = true then (if what = 0 then acc (slF s) 0 ns else if acc (slF s) 0 ns = 0 then -4 else ntz (acc (slF s) 0 ns)) else -1
def aloneM (s : MS) (nl ns : Nat) (k : Int32) : Int32 := if iw k 0 (s.1 5 - 1) = true then lbc (leftI s nl ns ((1 : Int32) <<< (k &&& 31))) else -1
def clC (s : MS) (nl ns : Nat) (i j : Nat) : Bool := decide (leftI s nl ns ((1 : Int32) <<< (nI i &&& 31) ||| (1 : Int32) <<< (nI j &&& 31)) = 0) && (!decide (leftI s nl ns ((1 : Int32) <<< (nI i &&& 31)) = 0) && !decide (leftI s nl ns ((1 : Int32) <<< (nI j &&& 31)) = 0))
def clR (n : Nat) (c : Nat → Nat → Bool) : Nat → Nat → Int32
  | 0, _ => -4
  | k + 1, i => match fnd (c i) (n - (i + 1)) (i + 1) with
    | some j => 10 * nI i + nI j
    | none => clR n c k (i + 1)
theorem fnd_hit {c : Nat → Bool} {k i : Nat} (h : c i = true) (hk : 0 < k) : fnd c k i = some i := by
  cases k with
  | zero => omega
  | succ k => simp only [fnd, h, ↓reduceIte]
theorem fnd_miss {c : Nat → Bool} {k i : Nat} (h : c i = false) (hk : 0 < k) : fnd c (k - 1) (i + 1) = fnd c k i := by
  cases k with
  | zero => omega
  | succ k => simp only [fnd, h, Bool.false_eq_true, ↓reduceIte]; rfl
theorem clR_hit {n : Nat} {c : Nat → Nat → Bool} {k i j : Nat} (hk : 0 < k) (h : fnd (c i) (n - (i + 1)) (i + 1) = some j) : clR n c k i = 10 * nI i + nI j := by
  cases k with
  | zero => omega
  | succ k => simp only [clR, h]
theorem clR_miss {n : Nat} {c : Nat → Nat → Bool} {k i : Nat} (hk : 0 < k) (h : fnd (c i) (n - (i + 1)) (i + 1) = none) : clR n c (k - 1) (i + 1) = clR n c k i := by
  cases k with
  | zero => omega
  | succ k => simp only [clR, h]; rfl
def btB (set than : Int32) : Bool := if than = -4 then true else if ibc than ≤ ibc set then false else true
def prF (s : MS) (nl ns : Nat) (fact : Int32) (i : Nat) (f : Int32) : Int32 := if btB (nI i) f = true then (if leftI s nl ns (nI i) = 0 then f else if hasB (factsI (leftI s nl ns (nI i)) 1) fact = true then nI i else f) else f
def proofM (s : MS) (nl ns : Nat) (fact : Int32) : Int32 := if iw fact 0 5 = true then acc (prF s nl ns fact) (-4) (2 ^ ns) else -1
def siF (s : MS) (set : Int32) (i : Nat) (b : Int64) : Int64 := if hasB set (nI i) = true then b &&& worldsN (s.2.1 6 i) 64 else b
def slpF (s : MS) (nl ns : Nat) (i : Nat) (f : Int32) : Int32 := if btB (nI i) f = true then (if acc (siF s (nI i)) (leftI s nl ns (((1 : Int32) <<< (s.1 5 &&& 31) - 1) &&& (nI i ^^^ (-1)))) ns = 0 then f else nI i) else f
def slippedM (s : MS) (nl ns : Nat) : Int32 := acc (slpF s nl ns) (-4) (2 ^ ns)
def haveF (left : Int64) (f : Int32) (w : Nat) (c : Int32) : Int32 := if (left >>> ((nI w).toInt64 &&& 63)) &&& 1 = 1 then (if hasB (nI w) f = true then c + 1 else c) else c
def askF (left : Int64) (f : Nat) (p : Int32 × Int32) : Int32 × Int32 := if p.2 < minI (acc (haveF left (nI f)) 0 64) (lbc left - acc (haveF left (nI f)) 0 64) then (nI f, minI (acc (haveF left (nI f)) 0 64) (lbc left - acc (haveF left (nI f)) 0 64)) else p
def askM (s : MS) (nl ns : Nat) : Int32 := if leftA s nl ns = 0 then -4 else (acc (askF (leftA s nl ns)) (-4, -1) 6).1
def sbF (s : MS) (p : Int32) (i : Nat) (b : Int32) : Int32 := if hasB p (s.2.1 7 i) = true then b ||| (1 : Int32) <<< (nI i &&& 31) else b
def saidByI (s : MS) (ns : Nat) (p : Int32) : Int32 := acc (sbF s p) 0 ns
def plB (s : MS) (nl ns : Nat) (p : Int32) : Bool := !decide (2 ≤ lbc (leftI s nl ns (saidByI s ns p)))
def plF (s : MS) (nl ns : Nat) (i : Nat) (f : Int32) : Int32 := if btB (nI i) f = true then (if plB s nl ns (nI i) = true then nI i else f) else f
def plainM (s : MS) (nl nw ns : Nat) : Int32 := acc (plF s nl ns) (-4) (2 ^ nw)
def dgF (p : Int32) (k : Nat) (d : Int32) : Int32 := if hasB p (nI k) = true then 10 * d + nI k else d
def dg2F (p : Int32) (k : Nat) (d : Int32) : Int32 := if hasB p (nI k) = true then d else 10 * d + nI k
def digM (p : Int32) (nw : Nat) : Int32 := acc (dg2F p) (acc (dgF p) 0 nw) nw
def ordF (s : MS) (nl nw ns : Nat) (set : Int32) (i : Nat) (least : Int32) : Int32 := if ibc (nI i) = ibc set then (if plB s nl ns (nI i) = true then (if least < 0 then digM (nI i) nw else if least ≤ digM (nI i) nw then least else digM (nI i) nw) else least) else least
def orderM (s : MS) (nl nw ns : Nat) (what : Int32) : Int32 := if iw what 0 1 = true then (if s.1 3 = 0 then -3 else if plainM s nl nw ns = -4 then -4 else if what = 0 then ibc (plainM s nl nw ns) else acc (ordF s nl nw ns (plainM s nl nw ns)) (-1) (2 ^ nw)) else -1
def withoutM (s : MS) (nl ns : Nat) (w : Int32) : Int32 := if iw w 0 (s.1 3 - 1) = true then lbc (leftI s nl ns (saidByI s ns (((1 : Int32) <<< (s.1 3 &&& 31) - 1) &&& ((1 : Int32) <<< (w &&& 31) ^^^ (-1))))) - lbc (leftA s nl ns) else -1
def lieB (s : MS) (k : Int32) (j : Nat) : Bool := decide (aboutI k &&& (s.2.1 4 j ^^^ (-1)) = 0) && !isTB k (s.1 0)
def psI (i : Int32) : Int32 := made (i / 36) 0 (i / 6 - i / 6 / 6 * 6) (i - i / 6 * 6)
theorem cm_X12_mayBe {G : ab_G} (hG : ab_GG G) {A : List ab_E} {s : MS} {B : List ab_E} (hA : A.length = 42)  {nl nw ns : Nat} (hI : mI s nl nw ns)  : ab_CM G mX12_mayBe [.ref 42] (mH A s B) (some (.long (mayBeI s nl))) (mH A s B) := by
  refine ab_meth (l0 := [(0, .ref 42)]) hG (by decide +kernel) rfl (Nat.le_of_ble_eq_true rfl) (Nat.le_refl _) (Nat.le_refl _) (fun X hX hF => ?_)
  obtain ⟨hl, hl6, hw, hw5, hs, hs10⟩ := id hI
  refine ab_ldc2 hX dX12_mayBe_0 tw_1227 ?_
  refine ab_lstore_n hX dX12_mayBe_3 rfl (by decide) rfl ?_
  refine ab_iconst (v := 0) hX dX12_mayBe_4 (by decide) ?_
  refine ab_istore_n hX dX12_mayBe_5 rfl (by decide) rfl ?_
  have L6 : ∀ (k6_ : Nat) (i : Nat) (hi_ : i ≤ nl), k6_ = nl - i → ab_WA G mX12_mayBe X 6 [(0, .ref 42), (1, .long (acc (mbF s) (-1) i)), (3, .int (nI i))] [] (mH A s B) := by
    intro k6_
    induction k6_ using Nat.strongRecOn with
    | _ k6_ ih6 =>
      intro i hi_ hk6_
      refine ab_iload_n hX dX12_mayBe_6 mm2 ?_
      refine ab_aload_n hX dX12_mayBe_7 mm0 ?_
      refine ab_getfield hX dX12_mayBe_8 (fs_X12_94_13 rfl) (mg_o hA) rfl ?_
      refine ab_icmpge (tgt := 32) hX dX12_mayBe_11 (by decide) (fun h_1 => ?_) (fun h_1 => ?_)
      ·
        have hx_ := ctE (N := nl) h_1 (by exact hl) (by omega) (by omega)
        obtain rfl : nl = i := by omega
        refine ab_lload_n hX dX12_mayBe_32 mm1 ?_
        exact ab_lreturn hX hF dX12_mayBe_33 rfl (congrArg some (congrArg Value.long (by rfl))) (by rfl)
      ·
        have hlt_ := ctL (N := nl) h_1 (by exact hl) (by omega) (by omega)
        refine ab_lload_n hX dX12_mayBe_14 mm1 ?_
        refine ab_aload_n hX dX12_mayBe_15 mm0 ?_
        refine ab_getfield hX dX12_mayBe_16 (fs_X12_7_13 rfl) (mg_o hA) rfl ?_
        refine ab_iload_n hX dX12_mayBe_19 mm2 ?_
        refine ab_iald (i := i) hX dX12_mayBe_20 (mg_2 hA) rfl (by omega) (by decide) ?_
        refine ab_callS1r hX dX12_mayBe_21 ss_X12_mayBe_140 (cm_X12_worldsOf hG) (Nat.le_of_ble_eq_true rfl) ?_
        refine ab_land hX dX12_mayBe_24 ?_
        refine ab_lstore_n hX dX12_mayBe_25 rfl (by decide) rfl ?_
        refine ab_iinc hX dX12_mayBe_26 mm2 rfl (by decide) rfl ?_
        refine ab_goto (tgt := 6) hX dX12_mayBe_29 (by decide) ?_
        exact ab_pm3 mm2 (mmv1 (congrArg Value.long (by first | exact (nI_1 _).symm | rfl | (rw [acc_s]; first | rfl | (simp only [mbF, h_1, ↓reduceIte, Bool.false_eq_true]; done) | (simp only [mbF, h_1, ↓reduceIte, Bool.false_eq_true]; rfl))))) (mmv0 (congrArg Value.int (by first | exact (nI_1 _).symm | rfl | (rw [acc_s]; first | rfl | (simp only [mbF, h_1, ↓reduceIte, Bool.false_eq_true]; done) | (simp only [mbF, h_1, ↓reduceIte, Bool.false_eq_true]; rfl))))) (ih6 (_) (by omega) (i + 1) (by omega) rfl)
  exact ab_pm3 mm2 (mmv1 (congrArg Value.long (by rfl))) (mmv0 (congrArg Value.int (by rfl))) (L6 _ 0 (by omega) rfl)
theorem cm_X12_leftBy {G : ab_G} (hG : ab_GG G) {A : List ab_E} {s : MS} {B : List ab_E} (hA : A.length = 42) {set : Int32} {nl nw ns : Nat} (hI : mI s nl nw ns)  : ab_CM G mX12_leftBy [.ref 42, .int set] (mH A s B) (some (.long (leftI s nl ns set))) (mH A s B) := by
  refine ab_meth (l0 := [(0, .ref 42), (1, .int set)]) hG (by decide +kernel) rfl (Nat.le_of_ble_eq_true rfl) (Nat.le_refl _) (Nat.le_refl _) (fun X hX hF => ?_)
  obtain ⟨hl, hl6, hw, hw5, hs, hs10⟩ := id hI
  refine ab_aload_n hX dX12_leftBy_0 mm0 ?_
  refine ab_callV0r hX dX12_leftBy_1 (mg_o hA) ss_X12_leftBy_144 (cm_X12_mayBe hG hA hI) (Nat.le_of_ble_eq_true rfl) ?_
  refine ab_lstore_n hX dX12_leftBy_4 rfl (by decide) rfl ?_
  refine ab_iconst (v := 0) hX dX12_leftBy_5 (by decide) ?_
  refine ab_istore hX dX12_leftBy_6 (by decide) rfl ?_
  have L8 : ∀ (k8_ : Nat) (i : Nat) (hi_ : i ≤ ns), k8_ = ns - i → ab_WA G mX12_leftBy X 8 [(0, .ref 42), (1, .int set), (2, .long (acc (lbF s set) (mayBeI s nl) i)), (4, .int (nI i))] [] (mH A s B) := by
    intro k8_
    induction k8_ using Nat.strongRecOn with
    | _ k8_ ih8 =>
      intro i hi_ hk8_
      refine ab_iload hX dX12_leftBy_8 mm3 ?_
      refine ab_aload_n hX dX12_leftBy_10 mm0 ?_
      refine ab_getfield hX dX12_leftBy_11 (fs_X12_51_13 rfl) (mg_o hA) rfl ?_
      refine ab_icmpge (tgt := 49) hX dX12_leftBy_14 (by decide) (fun h_1 => ?_) (fun h_1 => ?_)
      ·
        have hx_ := ctE (N := ns) h_1 (by exact hs) (by omega) (by omega)
        obtain rfl : ns = i := by omega
        refine ab_lload_n hX dX12_leftBy_49 mm2 ?_
        exact ab_lreturn hX hF dX12_leftBy_50 rfl (congrArg some (congrArg Value.long (by rfl))) (by rfl)
      ·
        have hlt_ := ctL (N := ns) h_1 (by exact hs) (by omega) (by omega)
        refine ab_iload_n hX dX12_leftBy_17 mm1 ?_
        refine ab_iload hX dX12_leftBy_18 mm3 ?_
        refine ab_callS2r hX dX12_leftBy_20 ss_X12_leftBy_54 (cm_X12_has hG) (Nat.le_of_ble_eq_true rfl) ?_
        refine ab_ifeqB (tgt := 43) hX dX12_leftBy_23 (by decide) (fun h_2 => ?_) (fun h_2 => ?_)
        ·
          refine ab_iinc hX dX12_leftBy_43 mm3 rfl (by decide) rfl ?_
          refine ab_goto (tgt := 8) hX dX12_leftBy_46 (by decide) ?_
          exact ab_pm4 mm1 (mmv2 (congrArg Value.int (by first | exact (nI_1 _).symm | rfl | (rw [acc_s]; first | rfl | (simp only [lbF, h_1, h_2, ↓reduceIte, Bool.false_eq_true]; done) | (simp only [lbF, h_1, h_2, ↓reduceIte, Bool.false_eq_true]; rfl))))) (mmv3 (congrArg Value.long (by first | exact (nI_1 _).symm | rfl | (rw [acc_s]; first | rfl | (simp only [lbF, h_1, h_2, ↓reduceIte, Bool.false_eq_true]; done) | (simp only [lbF, h_1, h_2, ↓reduceIte, Bool.false_eq_true]; rfl))))) (mmv0 (congrArg Value.int (by first | exact (nI_1 _).symm | rfl | (rw [acc_s]; first | rfl | (simp only [lbF, h_1, h_2, ↓reduceIte, Bool.false_eq_true]; done) | (simp only [lbF, h_1, h_2, ↓reduceIte, Bool.false_eq_true]; rfl))))) (ih8 (_) (by omega) (i + 1) (by omega) rfl)
        ·
          refine ab_lload_n hX dX12_leftBy_26 mm2 ?_
          refine ab_aload_n hX dX12_leftBy_27 mm0 ?_
          refine ab_getfield hX dX12_leftBy_28 (fs_X12_16_13 rfl) (mg_o hA) rfl ?_
          refine ab_iload hX dX12_leftBy_31 mm3 ?_
          refine ab_iald (i := i) hX dX12_leftBy_33 (mg_6 hA) rfl (by omega) (by decide) ?_
          refine ab_callS1r hX dX12_leftBy_34 ss_X12_leftBy_140 (cm_X12_worldsOf hG) (Nat.le_of_ble_eq_true rfl) ?_
          refine ab_ldc2 hX dX12_leftBy_37 tw_1227 ?_
          refine ab_lxor hX dX12_leftBy_40 ?_
          refine ab_land hX dX12_leftBy_41 ?_
          refine ab_lstore_n hX dX12_leftBy_42 rfl (by decide) rfl ?_
          refine ab_iinc hX dX12_leftBy_43 mm3 rfl (by decide) rfl ?_
          refine ab_goto (tgt := 8) hX dX12_leftBy_46 (by decide) ?_
          exact ab_pm4 mm2 (mmv3 (congrArg Value.int (by first | exact (nI_1 _).symm | rfl | (rw [acc_s]; first | rfl | (simp only [lbF, h_1, h_2, ↓reduceIte, Bool.false_eq_true]; done) | (simp only [lbF, h_1, h_2, ↓reduceIte, Bool.false_eq_true]; rfl))))) (mmv1 (congrArg Value.long (by first | exact (nI_1 _).symm | rfl | (rw [acc_s]; first | rfl | (simp only [lbF, h_1, h_2, ↓reduceIte, Bool.false_eq_true]; done) | (simp only [lbF, h_1, h_2, ↓reduceIte, Bool.false_eq_true]; rfl))))) (mmv0 (congrArg Value.int (by first | exact (nI_1 _).symm | rfl | (rw [acc_s]; first | rfl | (simp only [lbF, h_1, h_2, ↓reduceIte, Bool.false_eq_true]; done) | (simp only [lbF, h_1, h_2, ↓reduceIte, Bool.false_eq_true]; rfl))))) (ih8 (_) (by omega) (i + 1) (by omega) rfl)
  exact ab_pm4 mm2 (mmv3 (congrArg Value.int (by rfl))) (mmv1 (congrArg Value.long (by rfl))) (mmv0 (congrArg Value.int (by rfl))) (L8 _ 0 (by omega) rfl)
theorem cm_X12_left {G : ab_G} (hG : ab_GG G) {A : List ab_E} {s : MS} {B : List ab_E} (hA : A.length = 42)  {nl nw ns : Nat} (hI : mI s nl nw ns)  : ab_CM G mX12_left [.ref 42] (mH A s B) (some (.long (leftA s nl ns))) (mH A s B) := by
  refine ab_meth (l0 := [(0, .ref 42)]) hG (by decide +kernel) rfl (Nat.le_of_ble_eq_true rfl) (Nat.le_refl _) (Nat.le_refl _) (fun X hX hF => ?_)
  obtain ⟨hl, hl6, hw, hw5, hs, hs10⟩ := id hI
  refine ab_aload_n hX dX12_left_0 mm0 ?_
  refine ab_iconst (v := 1) hX dX12_left_1 (by decide) ?_
  refine ab_aload_n hX dX12_left_2 mm0 ?_
  refine ab_getfield hX dX12_left_3 (fs_X12_51_13 rfl) (mg_o hA) rfl ?_
  refine ab_ishl hX dX12_left_6 ?_
  refine ab_iconst (v := 1) hX dX12_left_7 (by decide) ?_
  refine ab_isub hX dX12_left_8 ?_
  refine ab_callV1r hX dX12_left_9 (mg_o hA) ss_X12_left_148 (cm_X12_leftBy hG hA hI) (Nat.le_of_ble_eq_true rfl) ?_
  exact ab_lreturn hX hF dX12_left_12 rfl (congrArg some (congrArg Value.long (by rfl))) (by rfl)
theorem cm_X12_worlds {G : ab_G} (hG : ab_GG G) {A : List ab_E} {s : MS} {B : List ab_E} (hA : A.length = 42) {what : Int32} {nl nw ns : Nat} (hI : mI s nl nw ns)  : ab_CM G mX12_worlds [.ref 42, .int what] (mH A s B) (some (.long (worldsM s nl ns what))) (mH A s B) := by
  refine ab_meth (l0 := [(0, .ref 42), (1, .int what)]) hG (by decide +kernel) rfl (Nat.le_of_ble_eq_true rfl) (Nat.le_refl _) (Nat.le_refl _) (fun X hX hF => ?_)
  obtain ⟨hl, hl6, hw, hw5, hs, hs10⟩ := id hI
  refine ab_iload_n hX dX12_worlds_0 mm1 ?_
  refine ab_iconst (v := 0) hX dX12_worlds_1 (by decide) ?_
  refine ab_iconst (v := 1) hX dX12_worlds_2 (by decide) ?_
  refine ab_callS3r hX dX12_worlds_3 ss_X12_worlds_43 (cm_X12_within hG) (Nat.le_of_ble_eq_true rfl) ?_
  refine ab_ifneB (tgt := 13) hX dX12_worlds_6 (by decide) (fun h_1 => ?_) (fun h_1 => ?_)
  ·
    refine ab_iload_n hX dX12_worlds_13 mm1 ?_
    refine ab_ifne (tgt := 24) hX dX12_worlds_14 (by decide) (fun h_2 => ?_) (fun h_2 => ?_)
    ·
      refine ab_aload_n hX dX12_worlds_24 mm0 ?_
      refine ab_callV0r hX dX12_worlds_25 (mg_o hA) ss_X12_worlds_153 (cm_X12_left hG hA hI) (Nat.le_of_ble_eq_true rfl) ?_
      exact ab_lreturn hX hF dX12_worlds_28 rfl (congrArg some (congrArg Value.long (by first | rfl | (simp only [worldsM, h_1, h_2, ↓reduceIte, Bool.false_eq_true]; done) | (simp only [worldsM, h_1, h_2, ↓reduceIte, Bool.false_eq_true]; rfl) | (unfold worldsM; (repeat' split) <;> first | rfl | contradiction | (simp_all; done))))) (by rfl)
    ·
      refine ab_aload_n hX dX12_worlds_17 mm0 ?_
      refine ab_callV0r hX dX12_worlds_18 (mg_o hA) ss_X12_worlds_144 (cm_X12_mayBe hG hA hI) (Nat.le_of_ble_eq_true rfl) ?_
      refine ab_goto (tgt := 28) hX dX12_worlds_21 (by decide) ?_
      exact ab_lreturn hX hF dX12_worlds_28 rfl (congrArg some (congrArg Value.long (by first | rfl | (simp only [worldsM, h_1, h_2, ↓reduceIte, Bool.false_eq_true]; done) | (simp only [worldsM, h_1, h_2, ↓reduceIte, Bool.false_eq_true]; rfl) | (unfold worldsM; (repeat' split) <;> first | rfl | contradiction | (simp_all; done))))) (by rfl)
  ·
    refine ab_ldc2 hX dX12_worlds_9 tw_1223 ?_
    exact ab_lreturn hX hF dX12_worlds_12 rfl (congrArg some (congrArg Value.long (by first | rfl | (simp only [worldsM, h_1, ↓reduceIte, Bool.false_eq_true]; done) | (simp only [worldsM, h_1, ↓reduceIte, Bool.false_eq_true]; rfl) | (unfold worldsM; (repeat' split) <;> first | rfl | contradiction | (simp_all; done))))) (by rfl)
theorem cm_X12_many {G : ab_G} (hG : ab_GG G) {A : List ab_E} {s : MS} {B : List ab_E} (hA : A.length = 42) {what : Int32} {nl nw ns : Nat} (hI : mI s nl nw ns)  : ab_CM G mX12_many [.ref 42, .int what] (mH A s B) (some (.int (manyM s nl ns what))) (mH A s B) := by
  refine ab_meth (l0 := [(0, .ref 42), (1, .int what)]) hG (by decide +kernel) rfl (Nat.le_of_ble_eq_true rfl) (Nat.le_refl _) (Nat.le_refl _) (fun X hX hF => ?_)
  obtain ⟨hl, hl6, hw, hw5, hs, hs10⟩ := id hI
  refine ab_iload_n hX dX12_many_0 mm1 ?_
  refine ab_iconst (v := 0) hX dX12_many_1 (by decide) ?_
  refine ab_iconst (v := 1) hX dX12_many_2 (by decide) ?_
  refine ab_callS3r hX dX12_many_3 ss_X12_many_43 (cm_X12_within hG) (Nat.le_of_ble_eq_true rfl) ?_
  refine ab_ifneB (tgt := 11) hX dX12_many_6 (by decide) (fun h_1 => ?_) (fun h_1 => ?_)
  ·
    refine ab_iload_n hX dX12_many_11 mm1 ?_
    refine ab_ifne (tgt := 22) hX dX12_many_12 (by decide) (fun h_2 => ?_) (fun h_2 => ?_)
    ·
      refine ab_aload_n hX dX12_many_22 mm0 ?_
      refine ab_callV0r hX dX12_many_23 (mg_o hA) ss_X12_many_153 (cm_X12_left hG hA hI) (Nat.le_of_ble_eq_true rfl) ?_
      refine ab_callS1r hX dX12_many_26 ss_X12_many_156 (cm_J13_bitCount_95d88 hG) (Nat.le_of_ble_eq_true rfl) ?_
      exact ab_ireturn hX hF dX12_many_29 rfl (by rfl) (congrArg some (congrArg Value.int (by first | rfl | (simp only [manyM, h_1, h_2, ↓reduceIte, Bool.false_eq_true]; done) | (simp only [manyM, h_1, h_2, ↓reduceIte, Bool.false_eq_true]; rfl) | (unfold manyM; (repeat' split) <;> first | rfl | contradiction | (simp_all; done))))) (by rfl)
    ·
      refine ab_aload_n hX dX12_many_15 mm0 ?_
      refine ab_callV0r hX dX12_many_16 (mg_o hA) ss_X12_many_144 (cm_X12_mayBe hG hA hI) (Nat.le_of_ble_eq_true rfl) ?_
      refine ab_goto (tgt := 26) hX dX12_many_19 (by decide) ?_
      refine ab_callS1r hX dX12_many_26 ss_X12_many_156 (cm_J13_bitCount_95d88 hG) (Nat.le_of_ble_eq_true rfl) ?_
      exact ab_ireturn hX hF dX12_many_29 rfl (by rfl) (congrArg some (congrArg Value.int (by first | rfl | (simp only [manyM, h_1, h_2, ↓reduceIte, Bool.false_eq_true]; done) | (simp only [manyM, h_1, h_2, ↓reduceIte, Bool.false_eq_true]; rfl) | (unfold manyM; (repeat' split) <;> first | rfl | contradiction | (simp_all; done))))) (by rfl)
  ·
    refine ab_iconst (v := (-1)) hX dX12_many_9 (by decide) ?_
    exact ab_ireturn hX hF dX12_many_10 rfl (by rfl) (congrArg some (congrArg Value.int (by first | rfl | (simp only [manyM, h_1, ↓reduceIte, Bool.false_eq_true]; done) | (simp only [manyM, h_1, ↓reduceIte, Bool.false_eq_true]; rfl) | (unfold manyM; (repeat' split) <;> first | rfl | contradiction | (simp_all; done))))) (by rfl)
theorem cm_X12_facts {G : ab_G} (hG : ab_GG G) {h : List ab_E} {w : Int64} {is : Int32}  : ab_CM G mX12_facts [.long w, .int is] h (some (.int (factsI w is))) h := by
  refine ab_meth (l0 := [(0, .long w), (2, .int is)]) hG (by decide +kernel) rfl (Nat.le_of_ble_eq_true rfl) (Nat.le_refl _) (Nat.le_refl _) (fun X hX hF => ?_)
  refine ab_bipush (v := 63) hX dX12_facts_0 (by decide) ?_
  refine ab_istore_n hX dX12_facts_2 rfl (by decide) rfl ?_
  refine ab_iconst (v := 0) hX dX12_facts_3 (by decide) ?_
  refine ab_istore hX dX12_facts_4 (by decide) rfl ?_
  have L6 : ∀ (k6_ : Nat) (i : Nat) (hi_ : i ≤ 64), k6_ = 64 - i → ab_WA G mX12_facts X 6 [(0, .long w), (2, .int is), (3, .int (acc (fcF w is) 63 i)), (4, .int (nI i))] [] h := by
    intro k6_
    induction k6_ using Nat.strongRecOn with
    | _ k6_ ih6 =>
      intro i hi_ hk6_
      refine ab_iload hX dX12_facts_6 mm3 ?_
      refine ab_bipush (v := 64) hX dX12_facts_8 (by decide) ?_
      refine ab_icmpge (tgt := 47) hX dX12_facts_10 (by decide) (fun h_1 => ?_) (fun h_1 => ?_)
      ·
        have hx_ := ctE (N := 64) h_1 (by rfl) (by omega) (by omega)
        obtain rfl : 64 = i := by omega
        refine ab_iload_n hX dX12_facts_47 mm2 ?_
        refine ab_bipush (v := 63) hX dX12_facts_48 (by decide) ?_
        refine ab_iand hX dX12_facts_50 ?_
        exact ab_ireturn hX hF dX12_facts_51 rfl (by rfl) (congrArg some (congrArg Value.int (by rfl))) (by rfl)
      ·
        have hlt_ := ctL (N := 64) h_1 (by rfl) (by omega) (by omega)
        refine ab_lload_n hX dX12_facts_13 mm0 ?_
        refine ab_iload hX dX12_facts_14 mm3 ?_
        refine ab_lshr hX dX12_facts_16 ?_
        refine ab_lconst (v := 1) hX dX12_facts_17 rfl ?_
        refine ab_land hX dX12_facts_18 ?_
        refine ab_lconst (v := 1) hX dX12_facts_19 rfl ?_
        refine ab_lcmp hX dX12_facts_20 ?_
        refine ab_ifneC (tgt := 41) hX dX12_facts_21 (by decide) (fun h_2 => ?_) (fun h_2 => ?_)
        ·
          refine ab_iinc hX dX12_facts_41 mm3 rfl (by decide) rfl ?_
          refine ab_goto (tgt := 6) hX dX12_facts_44 (by decide) ?_
          exact ab_pm4 (mmv1 (congrArg Value.long (by first | exact (nI_1 _).symm | rfl | (rw [acc_s]; first | rfl | (simp only [fcF, h_1, h_2, ↓reduceIte, Bool.false_eq_true]; done) | (simp only [fcF, h_1, h_2, ↓reduceIte, Bool.false_eq_true]; rfl))))) (mmv2 (congrArg Value.int (by first | exact (nI_1 _).symm | rfl | (rw [acc_s]; first | rfl | (simp only [fcF, h_1, h_2, ↓reduceIte, Bool.false_eq_true]; done) | (simp only [fcF, h_1, h_2, ↓reduceIte, Bool.false_eq_true]; rfl))))) (mmv3 (congrArg Value.int (by first | exact (nI_1 _).symm | rfl | (rw [acc_s]; first | rfl | (simp only [fcF, h_1, h_2, ↓reduceIte, Bool.false_eq_true]; done) | (simp only [fcF, h_1, h_2, ↓reduceIte, Bool.false_eq_true]; rfl))))) (mmv0 (congrArg Value.int (by first | exact (nI_1 _).symm | rfl | (rw [acc_s]; first | rfl | (simp only [fcF, h_1, h_2, ↓reduceIte, Bool.false_eq_true]; done) | (simp only [fcF, h_1, h_2, ↓reduceIte, Bool.false_eq_true]; rfl))))) (ih6 (_) (by omega) (i + 1) (by omega) rfl)
        ·
          refine ab_iload_n hX dX12_facts_24 mm2 ?_
          refine ab_iload_n hX dX12_facts_25 mm1 ?_
          refine ab_iconst (v := 1) hX dX12_facts_26 (by decide) ?_
          refine ab_icmpne (tgt := 35) hX dX12_facts_27 (by decide) (fun h_3 => ?_) (fun h_3 => ?_)
          ·
            refine ab_iload hX dX12_facts_35 mm3 ?_
            refine ab_iconst (v := (-1)) hX dX12_facts_37 (by decide) ?_
            refine ab_ixor hX dX12_facts_38 ?_
            refine ab_iand hX dX12_facts_39 ?_
            refine ab_istore_n hX dX12_facts_40 rfl (by decide) rfl ?_
            refine ab_iinc hX dX12_facts_41 mm3 rfl (by decide) rfl ?_
            refine ab_goto (tgt := 6) hX dX12_facts_44 (by decide) ?_
            exact ab_pm4 (mmv2 (congrArg Value.long (by first | exact (nI_1 _).symm | rfl | (rw [acc_s]; first | rfl | (simp only [fcF, h_1, h_2, h_3, ↓reduceIte, Bool.false_eq_true]; done) | (simp only [fcF, h_1, h_2, h_3, ↓reduceIte, Bool.false_eq_true]; rfl))))) (mmv3 (congrArg Value.int (by first | exact (nI_1 _).symm | rfl | (rw [acc_s]; first | rfl | (simp only [fcF, h_1, h_2, h_3, ↓reduceIte, Bool.false_eq_true]; done) | (simp only [fcF, h_1, h_2, h_3, ↓reduceIte, Bool.false_eq_true]; rfl))))) (mmv1 (congrArg Value.int (by first | exact (nI_1 _).symm | rfl | (rw [acc_s]; first | rfl | (simp only [fcF, h_1, h_2, h_3, ↓reduceIte, Bool.false_eq_true]; done) | (simp only [fcF, h_1, h_2, h_3, ↓reduceIte, Bool.false_eq_true]; rfl))))) (mmv0 (congrArg Value.int (by first | exact (nI_1 _).symm | rfl | (rw [acc_s]; first | rfl | (simp only [fcF, h_1, h_2, h_3, ↓reduceIte, Bool.false_eq_true]; done) | (simp only [fcF, h_1, h_2, h_3, ↓reduceIte, Bool.false_eq_true]; rfl))))) (ih6 (_) (by omega) (i + 1) (by omega) rfl)
          ·
            refine ab_iload hX dX12_facts_30 mm3 ?_
            refine ab_goto (tgt := 39) hX dX12_facts_32 (by decide) ?_
            refine ab_iand hX dX12_facts_39 ?_
            refine ab_istore_n hX dX12_facts_40 rfl (by decide) rfl ?_
            refine ab_iinc hX dX12_facts_41 mm3 rfl (by decide) rfl ?_
            refine ab_goto (tgt := 6) hX dX12_facts_44 (by decide) ?_
            exact ab_pm4 (mmv2 (congrArg Value.long (by first | exact (nI_1 _).symm | rfl | (rw [acc_s]; first | rfl | (simp only [fcF, h_1, h_2, h_3, ↓reduceIte, Bool.false_eq_true]; done) | (simp only [fcF, h_1, h_2, h_3, ↓reduceIte, Bool.false_eq_true]; rfl))))) (mmv3 (congrArg Value.int (by first | exact (nI_1 _).symm | rfl | (rw [acc_s]; first | rfl | (simp only [fcF, h_1, h_2, h_3, ↓reduceIte, Bool.false_eq_true]; done) | (simp only [fcF, h_1, h_2, h_3, ↓reduceIte, Bool.false_eq_true]; rfl))))) (mmv1 (congrArg Value.int (by first | exact (nI_1 _).symm | rfl | (rw [acc_s]; first | rfl | (simp only [fcF, h_1, h_2, h_3, ↓reduceIte, Bool.false_eq_true]; done) | (simp only [fcF, h_1, h_2, h_3, ↓reduceIte, Bool.false_eq_true]; rfl))))) (mmv0 (congrArg Value.int (by first | exact (nI_1 _).symm | rfl | (rw [acc_s]; first | rfl | (simp only [fcF, h_1, h_2, h_3, ↓reduceIte, Bool.false_eq_true]; done) | (simp only [fcF, h_1, h_2, h_3, ↓reduceIte, Bool.false_eq_true]; rfl))))) (ih6 (_) (by omega) (i + 1) (by omega) rfl)
  exact ab_pm4 (mmv2 (congrArg Value.long (by rfl))) (mmv3 (congrArg Value.int (by rfl))) (mmv1 (congrArg Value.int (by rfl))) (mmv0 (congrArg Value.int (by rfl))) (L6 _ 0 (by omega) rfl)
theorem cm_X12_proved {G : ab_G} (hG : ab_GG G) {A : List ab_E} {s : MS} {B : List ab_E} (hA : A.length = 42) {what : Int32} {nl nw ns : Nat} (hI : mI s nl nw ns)  : ab_CM G mX12_proved [.ref 42, .int what] (mH A s B) (some (.int (provedM s nl ns what))) (mH A s B) := by
  refine ab_meth (l0 := [(0, .ref 42), (1, .int what)]) hG (by decide +kernel) rfl (Nat.le_of_ble_eq_true rfl) (Nat.le_refl _) (Nat.le_refl _) (fun X hX hF => ?_)
  obtain ⟨hl, hl6, hw, hw5, hs, hs10⟩ := id hI
  refine ab_iload_n hX dX12_proved_0 mm1 ?_
  refine ab_iconst (v := 0) hX dX12_proved_1 (by decide) ?_
  refine ab_iconst (v := 1) hX dX12_proved_2 (by decide) ?_
  refine ab_callS3r hX dX12_proved_3 ss_X12_proved_43 (cm_X12_within hG) (Nat.le_of_ble_eq_true rfl) ?_
  refine ab_ifeqB (tgt := 22) hX dX12_proved_6 (by decide) (fun h_1 => ?_) (fun h_1 => ?_)
  ·
    refine ab_iconst (v := (-1)) hX dX12_proved_22 (by decide) ?_
    exact ab_ireturn hX hF dX12_proved_23 rfl (by rfl) (congrArg some (congrArg Value.int (by first | rfl | (simp only [provedM, h_1, ↓reduceIte, Bool.false_eq_true]; done) | (simp only [provedM, h_1, ↓reduceIte, Bool.false_eq_true]; rfl) | (unfold provedM; (repeat' split) <;> first | rfl | contradiction | (simp_all; done))))) (by rfl)
  ·
    refine ab_aload_n hX dX12_proved_9 mm0 ?_
    refine ab_callV0r hX dX12_proved_10 (mg_o hA) ss_X12_proved_153 (cm_X12_left hG hA hI) (Nat.le_of_ble_eq_true rfl) ?_
    refine ab_iconst (v := 1) hX dX12_proved_13 (by decide) ?_
    refine ab_iload_n hX dX12_proved_14 mm1 ?_
    refine ab_isub hX dX12_proved_15 ?_
    refine ab_callS2r hX dX12_proved_16 ss_X12_proved_162 (cm_X12_facts hG) (Nat.le_of_ble_eq_true rfl) ?_
    refine ab_goto (tgt := 23) hX dX12_proved_19 (by decide) ?_
    exact ab_ireturn hX hF dX12_proved_23 rfl (by rfl) (congrArg some (congrArg Value.int (by first | rfl | (simp only [provedM, h_1, ↓reduceIte, Bool.false_eq_true]; done) | (simp only [provedM, h_1, ↓reduceIte, Bool.false_eq_true]; rfl) | (unfold provedM; (repeat' split) <;> first | rfl | contradiction | (simp_all; done))))) (by rfl)
theorem cm_X12_slips {G : ab_G} (hG : ab_GG G) {A : List ab_E} {s : MS} {B : List ab_E} (hA : A.length = 42) {what : Int32} {nl nw ns : Nat} (hI : mI s nl nw ns)  : ab_CM G mX12_slips [.ref 42, .int what] (mH A s B) (some (.int (slipsM s ns what))) (mH A s B) := by
  refine ab_meth (l0 := [(0, .ref 42), (1, .int what)]) hG (by decide +kernel) rfl (Nat.le_of_ble_eq_true rfl) (Nat.le_refl _) (Nat.le_refl _) (fun X hX hF => ?_)
  obtain ⟨hl, hl6, hw, hw5, hs, hs10⟩ := id hI
  refine ab_iload_n hX dX12_slips_0 mm1 ?_
  refine ab_iconst (v := 0) hX dX12_slips_1 (by decide) ?_
  refine ab_iconst (v := 1) hX dX12_slips_2 (by decide) ?_
  refine ab_callS3r hX dX12_slips_3 ss_X12_slips_43 (cm_X12_within hG) (Nat.le_of_ble_eq_true rfl) ?_
  refine ab_ifneB (tgt := 11) hX dX12_slips_6 (by decide) (fun h_1 => ?_) (fun h_1 => ?_)
  ·
    refine ab_iconst (v := 0) hX dX12_slips_11 (by decide) ?_
    refine ab_istore_n hX dX12_slips_12 rfl (by decide) rfl ?_
    refine ab_iconst (v := 0) hX dX12_slips_13 (by decide) ?_
    refine ab_istore_n hX dX12_slips_14 rfl (by decide) rfl ?_
    have L15 : ∀ (k15_ : Nat) (i : Nat) (hi_ : i ≤ ns), k15_ = ns - i → ab_WA G mX12_slips X 15 [(0, .ref 42), (1, .int what), (2, .int (acc (slF s) 0 i)), (3, .int (nI i))] [] (mH A s B) := by
      intro k15_
      induction k15_ using Nat.strongRecOn with
      | _ k15_ ih15 =>
        intro i hi_ hk15_
        refine ab_iload_n hX dX12_slips_15 mm3 ?_
        refine ab_aload_n hX dX12_slips_16 mm0 ?_
        refine ab_getfield hX dX12_slips_17 (fs_X12_51_13 rfl) (mg_o hA) rfl ?_
        refine ab_icmpge (tgt := 43) hX dX12_slips_20 (by decide) (fun h_2 => ?_) (fun h_2 => ?_)
        ·
          have hx_ := ctE (N := ns) h_2 (by exact hs) (by omega) (by omega)
          obtain rfl : ns = i := by omega
          refine ab_iload_n hX dX12_slips_43 mm1 ?_
          refine ab_ifne (tgt := 51) hX dX12_slips_44 (by decide) (fun h_3 => ?_) (fun h_3 => ?_)
          ·
            refine ab_iload_n hX dX12_slips_51 mm2 ?_
            refine ab_ifne (tgt := 60) hX dX12_slips_52 (by decide) (fun h_4 => ?_) (fun h_4 => ?_)
            ·
              refine ab_iload_n hX dX12_slips_60 mm2 ?_
              refine ab_callS1r hX dX12_slips_61 ss_X12_slips_166 (cm_J6_numberOfTrailingZeros_0f7a4 hG) (Nat.le_of_ble_eq_true rfl) ?_
              exact ab_ireturn hX hF dX12_slips_64 rfl (by rfl) (congrArg some (congrArg Value.int (by first | rfl | (simp only [slipsM, h_1, h_2, h_3, h_4, ↓reduceIte, Bool.false_eq_true]; done) | (simp only [slipsM, h_1, h_2, h_3, h_4, ↓reduceIte, Bool.false_eq_true]; rfl) | (unfold slipsM; (repeat' split) <;> first | rfl | contradiction | (simp_all; done))))) (by rfl)
            ·
              refine ab_bipush (v := (-4)) hX dX12_slips_55 (by decide) ?_
              refine ab_goto (tgt := 64) hX dX12_slips_57 (by decide) ?_
              exact ab_ireturn hX hF dX12_slips_64 rfl (by rfl) (congrArg some (congrArg Value.int (by first | rfl | (simp only [slipsM, h_1, h_2, h_3, h_4, ↓reduceIte, Bool.false_eq_true]; done) | (simp only [slipsM, h_1, h_2, h_3, h_4, ↓reduceIte, Bool.false_eq_true]; rfl) | (unfold slipsM; (repeat' split) <;> first | rfl | contradiction | (simp_all; done))))) (by rfl)
          ·
            refine ab_iload_n hX dX12_slips_47 mm2 ?_
            refine ab_goto (tgt := 64) hX dX12_slips_48 (by decide) ?_
            exact ab_ireturn hX hF dX12_slips_64 rfl (by rfl) (congrArg some (congrArg Value.int (by first | rfl | (simp only [slipsM, h_1, h_2, h_3, ↓reduceIte, Bool.false_eq_true]; done) | (simp only [slipsM, h_1, h_2, h_3, ↓reduceIte, Bool.false_eq_true]; rfl) | (unfold slipsM; (repeat' split) <;> first | rfl | contradiction | (simp_all; done))))) (by rfl)
        ·
          have hlt_ := ctL (N := ns) h_2 (by exact hs) (by omega) (by omega)
          refine ab_aload_n hX dX12_slips_23 mm0 ?_
          refine ab_iload_n hX dX12_slips_24 mm3 ?_
          refine ab_callV1r hX dX12_slips_25 (mg_o hA) ss_X12_slips_128 (cm_X12_isSlip hG hA rfl (by omega)) (Nat.le_of_ble_eq_true rfl) ?_
          refine ab_ifeqB (tgt := 37) hX dX12_slips_28 (by decide) (fun h_5 => ?_) (fun h_5 => ?_)
          ·
            refine ab_iinc hX dX12_slips_37 mm3 rfl (by decide) rfl ?_
            refine ab_goto (tgt := 15) hX dX12_slips_40 (by decide) ?_
            exact ab_pm4 mm1 (mmv2 (congrArg Value.int (by first | exact (nI_1 _).symm | rfl | (rw [acc_s]; first | rfl | (simp only [slF, h_1, h_2, h_5, ↓reduceIte, Bool.false_eq_true]; done) | (simp only [slF, h_1, h_2, h_5, ↓reduceIte, Bool.false_eq_true]; rfl))))) (mmv3 (congrArg Value.int (by first | exact (nI_1 _).symm | rfl | (rw [acc_s]; first | rfl | (simp only [slF, h_1, h_2, h_5, ↓reduceIte, Bool.false_eq_true]; done) | (simp only [slF, h_1, h_2, h_5, ↓reduceIte, Bool.false_eq_true]; rfl))))) (mmv0 (congrArg Value.int (by first | exact (nI_1 _).symm | rfl | (rw [acc_s]; first | rfl | (simp only [slF, h_1, h_2, h_5, ↓reduceIte, Bool.false_eq_true]; done) | (simp only [slF, h_1, h_2, h_5, ↓reduceIte, Bool.false_eq_true]; rfl))))) (ih15 (_) (by omega) (i + 1) (by omega) rfl)
          ·
            refine ab_iload_n hX dX12_slips_31 mm2 ?_
            refine ab_iconst (v := 1) hX dX12_slips_32 (by decide) ?_
            refine ab_iload_n hX dX12_slips_33 mm3 ?_
            refine ab_ishl hX dX12_slips_34 ?_
            refine ab_ior hX dX12_slips_35 ?_
            refine ab_istore_n hX dX12_slips_36 rfl (by decide) rfl ?_
            refine ab_iinc hX dX12_slips_37 mm3 rfl (by decide) rfl ?_
            refine ab_goto (tgt := 15) hX dX12_slips_40 (by decide) ?_
            exact ab_pm4 mm2 (mmv3 (congrArg Value.int (by first | exact (nI_1 _).symm | rfl | (rw [acc_s]; first | rfl | (simp only [slF, h_1, h_2, h_5, ↓reduceIte, Bool.false_eq_true]; done) | (simp only [slF, h_1, h_2, h_5, ↓reduceIte, Bool.false_eq_true]; rfl))))) (mmv1 (congrArg Value.int (by first | exact (nI_1 _).symm | rfl | (rw [acc_s]; first | rfl | (simp only [slF, h_1, h_2, h_5, ↓reduceIte, Bool.false_eq_true]; done) | (simp only [slF, h_1, h_2, h_5, ↓reduceIte, Bool.false_eq_true]; rfl))))) (mmv0 (congrArg Value.int (by first | exact (nI_1 _).symm | rfl | (rw [acc_s]; first | rfl | (simp only [slF, h_1, h_2, h_5, ↓reduceIte, Bool.false_eq_true]; done) | (simp only [slF, h_1, h_2, h_5, ↓reduceIte, Bool.false_eq_true]; rfl))))) (ih15 (_) (by omega) (i + 1) (by omega) rfl)
    exact ab_pm4 mm2 (mmv3 (congrArg Value.int (by rfl))) (mmv1 (congrArg Value.int (by rfl))) (mmv0 (congrArg Value.int (by rfl))) (L15 _ 0 (by omega) rfl)
  ·
    refine ab_iconst (v := (-1)) hX dX12_slips_9 (by decide) ?_
    exact ab_ireturn hX hF dX12_slips_10 rfl (by rfl) (congrArg some (congrArg Value.int (by first | rfl | (simp only [slipsM, h_1, ↓reduceIte, Bool.false_eq_true]; done) | (simp only [slipsM, h_1, ↓reduceIte, Bool.false_eq_true]; rfl) | (unfold slipsM; (repeat' split) <;> first | rfl | contradiction | (simp_all; done))))) (by rfl)
theorem cm_X12_alone {G : ab_G} (hG : ab_GG G) {A : List ab_E} {s : MS} {B : List ab_E} (hA : A.length = 42) {k : Int32} {nl nw ns : Nat} (hI : mI s nl nw ns)  : ab_CM G mX12_alone [.ref 42, .int k] (mH A s B) (some (.int (aloneM s nl ns k))) (mH A s B) := by
  refine ab_meth (l0 := [(0, .ref 42), (1, .int k)]) hG (by decide +kernel) rfl (Nat.le_of_ble_eq_true rfl) (Nat.le_refl _) (Nat.le_refl _) (fun X hX hF => ?_)
  obtain ⟨hl, hl6, hw, hw5, hs, hs10⟩ := id hI
  refine ab_aload_n hX dX12_alone_0 mm0 ?_
  refine ab_iload_n hX dX12_alone_1 mm1 ?_
  refine ab_callV1r hX dX12_alone_2 (mg_o hA) ss_X12_alone_125 (cm_X12_isSaid hG hA) (Nat.le_of_ble_eq_true rfl) ?_
  refine ab_ifeqB (tgt := 21) hX dX12_alone_5 (by decide) (fun h_1 => ?_) (fun h_1 => ?_)
  ·
    refine ab_iconst (v := (-1)) hX dX12_alone_21 (by decide) ?_
    exact ab_ireturn hX hF dX12_alone_22 rfl (by rfl) (congrArg some (congrArg Value.int (by first | rfl | (simp only [aloneM, h_1, ↓reduceIte, Bool.false_eq_true]; done) | (simp only [aloneM, h_1, ↓reduceIte, Bool.false_eq_true]; rfl) | (unfold aloneM; (repeat' split) <;> first | rfl | contradiction | (simp_all; done))))) (by rfl)
  ·
    refine ab_aload_n hX dX12_alone_8 mm0 ?_
    refine ab_iconst (v := 1) hX dX12_alone_9 (by decide) ?_
    refine ab_iload_n hX dX12_alone_10 mm1 ?_
    refine ab_ishl hX dX12_alone_11 ?_
    refine ab_callV1r hX dX12_alone_12 (mg_o hA) ss_X12_alone_148 (cm_X12_leftBy hG hA hI) (Nat.le_of_ble_eq_true rfl) ?_
    refine ab_callS1r hX dX12_alone_15 ss_X12_alone_156 (cm_J13_bitCount_95d88 hG) (Nat.le_of_ble_eq_true rfl) ?_
    refine ab_goto (tgt := 22) hX dX12_alone_18 (by decide) ?_
    exact ab_ireturn hX hF dX12_alone_22 rfl (by rfl) (congrArg some (congrArg Value.int (by first | rfl | (simp only [aloneM, h_1, ↓reduceIte, Bool.false_eq_true]; done) | (simp only [aloneM, h_1, ↓reduceIte, Bool.false_eq_true]; rfl) | (unfold aloneM; (repeat' split) <;> first | rfl | contradiction | (simp_all; done))))) (by rfl)
theorem cm_X12_clash {G : ab_G} (hG : ab_GG G) {A : List ab_E} {s : MS} {B : List ab_E} (hA : A.length = 42)  {nl nw ns : Nat} (hI : mI s nl nw ns)  : ab_CM G mX12_clash [.ref 42] (mH A s B) (some (.int (clR ns (clC s nl ns) ns 0))) (mH A s B) := by
  refine ab_meth (l0 := [(0, .ref 42)]) hG (by decide +kernel) rfl (Nat.le_of_ble_eq_true rfl) (Nat.le_refl _) (Nat.le_refl _) (fun X hX hF => ?_)
  obtain ⟨hl, hl6, hw, hw5, hs, hs10⟩ := id hI
  refine ab_iconst (v := 0) hX dX12_clash_0 (by decide) ?_
  refine ab_istore_n hX dX12_clash_1 rfl (by decide) rfl ?_
  have L2 : ∀ (k2_ : Nat) (i : Nat) (hi_ : i ≤ ns) (hr : clR ns (clC s nl ns) (ns - i) i = clR ns (clC s nl ns) ns 0), k2_ = ns - i → ab_WA G mX12_clash X 2 [(0, .ref 42), (1, .int (nI i))] [] (mH A s B) := by
    intro k2_
    induction k2_ using Nat.strongRecOn with
    | _ k2_ ih2 =>
      intro i hi_ hr hk2_
      refine ab_iload_n hX dX12_clash_2 mm1 ?_
      refine ab_aload_n hX dX12_clash_3 mm0 ?_
      refine ab_getfield hX dX12_clash_4 (fs_X12_51_13 rfl) (mg_o hA) rfl ?_
      refine ab_icmpge (tgt := 81) hX dX12_clash_7 (by decide) (fun h_1 => ?_) (fun h_1 => ?_)
      ·
        have hx_ := ctE (N := ns) h_1 (by exact hs) (by omega) (by omega)
        obtain rfl : ns = i := by omega
        refine ab_bipush (v := (-4)) hX dX12_clash_81 (by decide) ?_
        exact ab_ireturn hX hF dX12_clash_83 rfl (by rfl) (congrArg some (congrArg Value.int (by rw [← hr, Nat.sub_self]; rfl))) (by rfl)
      ·
        have hlt_ := ctL (N := ns) h_1 (by exact hs) (by omega) (by omega)
        refine ab_iload_n hX dX12_clash_10 mm1 ?_
        refine ab_iconst (v := 1) hX dX12_clash_11 (by decide) ?_
        refine ab_iadd hX dX12_clash_12 ?_
        refine ab_istore_n hX dX12_clash_13 rfl (by decide) rfl ?_
        have L14 : ∀ (k14_ : Nat) (j : Nat) (hj_ : i + 1 ≤ j ∧ j ≤ ns) (hq : fnd (clC s nl ns i) (ns - j) j = fnd (clC s nl ns i) (ns - (i + 1)) (i + 1)), k14_ = ns - j → ab_WA G mX12_clash X 14 [(0, .ref 42), (1, .int (nI i)), (2, .int (nI j))] [] (mH A s B) := by
          intro k14_
          induction k14_ using Nat.strongRecOn with
          | _ k14_ ih14 =>
            intro j hj_ hq hk14_
            refine ab_iload_n hX dX12_clash_14 mm2 ?_
            refine ab_aload_n hX dX12_clash_15 mm0 ?_
            refine ab_getfield hX dX12_clash_16 (fs_X12_51_13 rfl) (mg_o hA) rfl ?_
            refine ab_icmpge (tgt := 75) hX dX12_clash_19 (by decide) (fun h_2 => ?_) (fun h_2 => ?_)
            ·
              have hx_ := ctE (N := ns) h_2 (by exact hs) (by omega) (by omega)
              obtain rfl : ns = j := by omega
              refine ab_iinc hX dX12_clash_75 mm1 rfl (by decide) rfl ?_
              refine ab_goto (tgt := 2) hX dX12_clash_78 (by decide) ?_
              exact ab_pm2 mm1 (mmv0 (congrArg Value.int (by exact (nI_1 _).symm))) (ih2 (_) (by omega) (i + 1) (by omega) ((clR_miss (k := ns - i) (by omega) (by rw [← hq, Nat.sub_self]; rfl)).trans hr) rfl)
            ·
              have hltj_ := ctL (N := ns) h_2 (by exact hs) (by omega) (by omega)
              refine ab_aload_n hX dX12_clash_22 mm0 ?_
              refine ab_iconst (v := 1) hX dX12_clash_23 (by decide) ?_
              refine ab_iload_n hX dX12_clash_24 mm1 ?_
              refine ab_ishl hX dX12_clash_25 ?_
              refine ab_iconst (v := 1) hX dX12_clash_26 (by decide) ?_
              refine ab_iload_n hX dX12_clash_27 mm2 ?_
              refine ab_ishl hX dX12_clash_28 ?_
              refine ab_ior hX dX12_clash_29 ?_
              refine ab_callV1r hX dX12_clash_30 (mg_o hA) ss_X12_clash_148 (cm_X12_leftBy hG hA hI) (Nat.le_of_ble_eq_true rfl) ?_
              refine ab_lconst (v := 0) hX dX12_clash_33 rfl ?_
              refine ab_lcmp hX dX12_clash_34 ?_
              refine ab_ifneC (tgt := 69) hX dX12_clash_35 (by decide) (fun h_3 => ?_) (fun h_3 => ?_)
              ·
                refine ab_iinc hX dX12_clash_69 mm2 rfl (by decide) rfl ?_
                refine ab_goto (tgt := 14) hX dX12_clash_72 (by decide) ?_
                exact ab_pm3 mm1 (mmv2 (congrArg Value.int (by first | rfl | exact (nI_1 _).symm))) (mmv0 (congrArg Value.int (by first | rfl | exact (nI_1 _).symm))) (ih14 (_) (by omega) (j + 1) (by omega) ((fnd_miss (k := ns - j) (by simp [clC, h_1, h_2, h_3]) (by omega)).trans hq) rfl)
              ·
                refine ab_aload_n hX dX12_clash_38 mm0 ?_
                refine ab_iconst (v := 1) hX dX12_clash_39 (by decide) ?_
                refine ab_iload_n hX dX12_clash_40 mm1 ?_
                refine ab_ishl hX dX12_clash_41 ?_
                refine ab_callV1r hX dX12_clash_42 (mg_o hA) ss_X12_clash_148 (cm_X12_leftBy hG hA hI) (Nat.le_of_ble_eq_true rfl) ?_
                refine ab_lconst (v := 0) hX dX12_clash_45 rfl ?_
                refine ab_lcmp hX dX12_clash_46 ?_
                refine ab_ifeqC (tgt := 69) hX dX12_clash_47 (by decide) (fun h_4 => ?_) (fun h_4 => ?_)
                ·
                  refine ab_iinc hX dX12_clash_69 mm2 rfl (by decide) rfl ?_
                  refine ab_goto (tgt := 14) hX dX12_clash_72 (by decide) ?_
                  exact ab_pm3 mm1 (mmv2 (congrArg Value.int (by first | rfl | exact (nI_1 _).symm))) (mmv0 (congrArg Value.int (by first | rfl | exact (nI_1 _).symm))) (ih14 (_) (by omega) (j + 1) (by omega) ((fnd_miss (k := ns - j) (by simp [clC, h_1, h_2, h_3, h_4]) (by omega)).trans hq) rfl)
                ·
                  refine ab_aload_n hX dX12_clash_50 mm0 ?_
                  refine ab_iconst (v := 1) hX dX12_clash_51 (by decide) ?_
                  refine ab_iload_n hX dX12_clash_52 mm2 ?_
                  refine ab_ishl hX dX12_clash_53 ?_
                  refine ab_callV1r hX dX12_clash_54 (mg_o hA) ss_X12_clash_148 (cm_X12_leftBy hG hA hI) (Nat.le_of_ble_eq_true rfl) ?_
                  refine ab_lconst (v := 0) hX dX12_clash_57 rfl ?_
                  refine ab_lcmp hX dX12_clash_58 ?_
                  refine ab_ifeqC (tgt := 69) hX dX12_clash_59 (by decide) (fun h_5 => ?_) (fun h_5 => ?_)
                  ·
                    refine ab_iinc hX dX12_clash_69 mm2 rfl (by decide) rfl ?_
                    refine ab_goto (tgt := 14) hX dX12_clash_72 (by decide) ?_
                    exact ab_pm3 mm1 (mmv2 (congrArg Value.int (by first | rfl | exact (nI_1 _).symm))) (mmv0 (congrArg Value.int (by first | rfl | exact (nI_1 _).symm))) (ih14 (_) (by omega) (j + 1) (by omega) ((fnd_miss (k := ns - j) (by simp [clC, h_1, h_2, h_3, h_4, h_5]) (by omega)).trans hq) rfl)
                  ·
                    refine ab_bipush (v := 10) hX dX12_clash_62 (by decide) ?_
                    refine ab_iload_n hX dX12_clash_64 mm1 ?_
                    refine ab_imul hX dX12_clash_65 ?_
                    refine ab_iload_n hX dX12_clash_66 mm2 ?_
                    refine ab_iadd hX dX12_clash_67 ?_
                    exact ab_ireturn hX hF dX12_clash_68 rfl (by rfl) (congrArg some (congrArg Value.int (by rw [← hr]; exact clR_hit (by omega) (by rw [← hq]; exact fnd_hit (by simp [clC, h_1, h_2, h_3, h_4, h_5]) (by omega))))) (by rfl)
        exact ab_pm3 mm1 (mmv2 (congrArg Value.int (by rfl))) (mmv0 (congrArg Value.int (by exact (nI_1 _).symm))) (L14 _ (i + 1) (by omega) rfl rfl)
  exact ab_pm2 mm1 (mmv0 (congrArg Value.int (by rfl))) (L2 _ 0 (by omega) rfl rfl)
theorem cm_X12_isBetter {G : ab_G} (hG : ab_GG G) {h : List ab_E} {set : Int32} {than : Int32}  : ab_CM G mX12_isBetter [.int set, .int than] h (some (.int (bi (btB set than)))) h := by
  refine ab_meth (l0 := [(0, .int set), (1, .int than)]) hG (by decide +kernel) rfl (Nat.le_of_ble_eq_true rfl) (Nat.le_refl _) (Nat.le_refl _) (fun X hX hF => ?_)
  refine ab_iload_n hX dX12_isBetter_0 mm1 ?_
  refine ab_bipush (v := (-4)) hX dX12_isBetter_1 (by decide) ?_
  refine ab_icmpeq (tgt := 17) hX dX12_isBetter_3 (by decide) (fun h_1 => ?_) (fun h_1 => ?_)
  ·
    refine ab_iconst (v := 1) hX dX12_isBetter_17 (by decide) ?_
    refine ab_goto (tgt := 22) hX dX12_isBetter_18 (by decide) ?_
    exact ab_ireturn hX hF dX12_isBetter_22 rfl (by first | rfl | exact bi_n _) (congrArg some (congrArg Value.int (by first | rfl | (simp only [btB, h_1, ↓reduceIte, Bool.false_eq_true]; done) | (simp only [btB, h_1, ↓reduceIte, Bool.false_eq_true]; rfl) | (unfold btB; (repeat' split) <;> first | rfl | contradiction | (simp_all; done))))) (by rfl)
  ·
    refine ab_iload_n hX dX12_isBetter_6 mm0 ?_
    refine ab_callS1r hX dX12_isBetter_7 ss_X12_isBetter_171 (cm_J6_bitCount_0f7a4 hG) (Nat.le_of_ble_eq_true rfl) ?_
    refine ab_iload_n hX dX12_isBetter_10 mm1 ?_
    refine ab_callS1r hX dX12_isBetter_11 ss_X12_isBetter_171 (cm_J6_bitCount_0f7a4 hG) (Nat.le_of_ble_eq_true rfl) ?_
    refine ab_icmpge (tgt := 21) hX dX12_isBetter_14 (by decide) (fun h_2 => ?_) (fun h_2 => ?_)
    ·
      refine ab_iconst (v := 0) hX dX12_isBetter_21 (by decide) ?_
      exact ab_ireturn hX hF dX12_isBetter_22 rfl (by first | rfl | exact bi_n _) (congrArg some (congrArg Value.int (by first | rfl | (simp only [btB, h_1, h_2, ↓reduceIte, Bool.false_eq_true]; done) | (simp only [btB, h_1, h_2, ↓reduceIte, Bool.false_eq_true]; rfl) | (unfold btB; (repeat' split) <;> first | rfl | contradiction | (simp_all; done))))) (by rfl)
    ·
      refine ab_iconst (v := 1) hX dX12_isBetter_17 (by decide) ?_
      refine ab_goto (tgt := 22) hX dX12_isBetter_18 (by decide) ?_
      exact ab_ireturn hX hF dX12_isBetter_22 rfl (by first | rfl | exact bi_n _) (congrArg some (congrArg Value.int (by first | rfl | (simp only [btB, h_1, h_2, ↓reduceIte, Bool.false_eq_true]; done) | (simp only [btB, h_1, h_2, ↓reduceIte, Bool.false_eq_true]; rfl) | (unfold btB; (repeat' split) <;> first | rfl | contradiction | (simp_all; done))))) (by rfl)
theorem cm_X12_proof {G : ab_G} (hG : ab_GG G) {A : List ab_E} {s : MS} {B : List ab_E} (hA : A.length = 42) {fact : Int32} {nl nw ns : Nat} (hI : mI s nl nw ns)  : ab_CM G mX12_proof [.ref 42, .int fact] (mH A s B) (some (.int (proofM s nl ns fact))) (mH A s B) := by
  refine ab_meth (l0 := [(0, .ref 42), (1, .int fact)]) hG (by decide +kernel) rfl (Nat.le_of_ble_eq_true rfl) (Nat.le_refl _) (Nat.le_refl _) (fun X hX hF => ?_)
  obtain ⟨hl, hl6, hw, hw5, hs, hs10⟩ := id hI
  obtain ⟨P, hP⟩ : ∃ P, P = 2 ^ ns := ⟨_, rfl⟩
  have hp_ : P ≤ 1024 := hP ▸ pw2b hs10
  refine ab_iload_n hX dX12_proof_0 mm1 ?_
  refine ab_callS1r hX dX12_proof_1 ss_X12_proof_77 (cm_X12_isFact hG) (Nat.le_of_ble_eq_true rfl) ?_
  refine ab_ifneB (tgt := 9) hX dX12_proof_4 (by decide) (fun h_1 => ?_) (fun h_1 => ?_)
  ·
    refine ab_bipush (v := (-4)) hX dX12_proof_9 (by decide) ?_
    refine ab_istore_n hX dX12_proof_11 rfl (by decide) rfl ?_
    refine ab_iconst (v := 0) hX dX12_proof_12 (by decide) ?_
    refine ab_istore_n hX dX12_proof_13 rfl (by decide) rfl ?_
    have L14 : ∀ (k14_ : Nat) (i : Nat) (hi_ : i ≤ P), k14_ = P - i → ab_WA G mX12_proof X 14 [(0, .ref 42), (1, .int fact), (2, .int (acc (prF s nl ns fact) (-4) i)), (3, .int (nI i))] [] (mH A s B) := by
      intro k14_
      induction k14_ using Nat.strongRecOn with
      | _ k14_ ih14 =>
        intro i hi_ hk14_
        refine ab_iload_n hX dX12_proof_14 mm3 ?_
        refine ab_iconst (v := 1) hX dX12_proof_15 (by decide) ?_
        refine ab_aload_n hX dX12_proof_16 mm0 ?_
        refine ab_getfield hX dX12_proof_17 (fs_X12_51_13 rfl) (mg_o hA) rfl ?_
        refine ab_ishl hX dX12_proof_20 ?_
        refine ab_icmpge (tgt := 70) hX dX12_proof_21 (by decide) (fun h_2 => ?_) (fun h_2 => ?_)
        ·
          have hx_ := ctE (N := P) h_2 (by rw [hs, hP]; exact pw2 _ (by omega)) (by omega) (by omega)
          obtain rfl : P = i := by omega
          refine ab_iload_n hX dX12_proof_70 mm2 ?_
          exact ab_ireturn hX hF dX12_proof_71 rfl (by rfl) (congrArg some (congrArg Value.int (by subst hP; first | rfl | (simp only [proofM, h_1, h_2, ↓reduceIte, Bool.false_eq_true]; done) | (simp only [proofM, h_1, h_2, ↓reduceIte, Bool.false_eq_true]; rfl) | (unfold proofM; (repeat' split) <;> first | rfl | contradiction | (simp_all; done))))) (by rfl)
        ·
          have hlt_ := ctL (N := P) h_2 (by rw [hs, hP]; exact pw2 _ (by omega)) (by omega) (by omega)
          refine ab_iload_n hX dX12_proof_24 mm3 ?_
          refine ab_iload_n hX dX12_proof_25 mm2 ?_
          refine ab_callS2r hX dX12_proof_26 ss_X12_proof_173 (cm_X12_isBetter hG) (Nat.le_of_ble_eq_true rfl) ?_
          refine ab_ifneB (tgt := 35) hX dX12_proof_29 (by decide) (fun h_3 => ?_) (fun h_3 => ?_)
          ·
            refine ab_aload_n hX dX12_proof_35 mm0 ?_
            refine ab_iload_n hX dX12_proof_36 mm3 ?_
            refine ab_callV1r hX dX12_proof_37 (mg_o hA) ss_X12_proof_148 (cm_X12_leftBy hG hA hI) (Nat.le_of_ble_eq_true rfl) ?_
            refine ab_lstore hX dX12_proof_40 (by decide) rfl ?_
            refine ab_lload hX dX12_proof_42 mm0 ?_
            refine ab_lconst (v := 0) hX dX12_proof_44 rfl ?_
            refine ab_lcmp hX dX12_proof_45 ?_
            refine ab_ifeqC (tgt := 64) hX dX12_proof_46 (by decide) (fun h_4 => ?_) (fun h_4 => ?_)
            ·
              refine ab_iinc hX dX12_proof_64 mm4 rfl (by decide) rfl ?_
              refine ab_goto (tgt := 14) hX dX12_proof_67 (by decide) ?_
              exact ab_pm4 mm2 (mmv3 (congrArg Value.int (by first | exact (nI_1 _).symm | rfl | (rw [acc_s]; first | rfl | (simp only [prF, h_1, h_2, h_3, h_4, ↓reduceIte, Bool.false_eq_true]; done) | (simp only [prF, h_1, h_2, h_3, h_4, ↓reduceIte, Bool.false_eq_true]; rfl))))) (mmv4 (congrArg Value.int (by first | exact (nI_1 _).symm | rfl | (rw [acc_s]; first | rfl | (simp only [prF, h_1, h_2, h_3, h_4, ↓reduceIte, Bool.false_eq_true]; done) | (simp only [prF, h_1, h_2, h_3, h_4, ↓reduceIte, Bool.false_eq_true]; rfl))))) (mmv0 (congrArg Value.int (by first | exact (nI_1 _).symm | rfl | (rw [acc_s]; first | rfl | (simp only [prF, h_1, h_2, h_3, h_4, ↓reduceIte, Bool.false_eq_true]; done) | (simp only [prF, h_1, h_2, h_3, h_4, ↓reduceIte, Bool.false_eq_true]; rfl))))) (ih14 (_) (by omega) (i + 1) (by omega) rfl)
            ·
              refine ab_lload hX dX12_proof_49 mm0 ?_
              refine ab_iconst (v := 1) hX dX12_proof_51 (by decide) ?_
              refine ab_callS2r hX dX12_proof_52 ss_X12_proof_162 (cm_X12_facts hG) (Nat.le_of_ble_eq_true rfl) ?_
              refine ab_iload_n hX dX12_proof_55 mm2 ?_
              refine ab_callS2r hX dX12_proof_56 ss_X12_proof_54 (cm_X12_has hG) (Nat.le_of_ble_eq_true rfl) ?_
              refine ab_ifeqB (tgt := 64) hX dX12_proof_59 (by decide) (fun h_5 => ?_) (fun h_5 => ?_)
              ·
                refine ab_iinc hX dX12_proof_64 mm4 rfl (by decide) rfl ?_
                refine ab_goto (tgt := 14) hX dX12_proof_67 (by decide) ?_
                exact ab_pm4 mm2 (mmv3 (congrArg Value.int (by first | exact (nI_1 _).symm | rfl | (rw [acc_s]; first | rfl | (simp only [prF, h_1, h_2, h_3, h_4, h_5, ↓reduceIte, Bool.false_eq_true]; done) | (simp only [prF, h_1, h_2, h_3, h_4, h_5, ↓reduceIte, Bool.false_eq_true]; rfl))))) (mmv4 (congrArg Value.int (by first | exact (nI_1 _).symm | rfl | (rw [acc_s]; first | rfl | (simp only [prF, h_1, h_2, h_3, h_4, h_5, ↓reduceIte, Bool.false_eq_true]; done) | (simp only [prF, h_1, h_2, h_3, h_4, h_5, ↓reduceIte, Bool.false_eq_true]; rfl))))) (mmv0 (congrArg Value.int (by first | exact (nI_1 _).symm | rfl | (rw [acc_s]; first | rfl | (simp only [prF, h_1, h_2, h_3, h_4, h_5, ↓reduceIte, Bool.false_eq_true]; done) | (simp only [prF, h_1, h_2, h_3, h_4, h_5, ↓reduceIte, Bool.false_eq_true]; rfl))))) (ih14 (_) (by omega) (i + 1) (by omega) rfl)
              ·
                refine ab_iload_n hX dX12_proof_62 mm4 ?_
                refine ab_istore_n hX dX12_proof_63 rfl (by decide) rfl ?_
                refine ab_iinc hX dX12_proof_64 mm4 rfl (by decide) rfl ?_
                refine ab_goto (tgt := 14) hX dX12_proof_67 (by decide) ?_
                exact ab_pm4 mm3 (mmv4 (congrArg Value.int (by first | exact (nI_1 _).symm | rfl | (rw [acc_s]; first | rfl | (simp only [prF, h_1, h_2, h_3, h_4, h_5, ↓reduceIte, Bool.false_eq_true]; done) | (simp only [prF, h_1, h_2, h_3, h_4, h_5, ↓reduceIte, Bool.false_eq_true]; rfl))))) (mmv1 (congrArg Value.int (by first | exact (nI_1 _).symm | rfl | (rw [acc_s]; first | rfl | (simp only [prF, h_1, h_2, h_3, h_4, h_5, ↓reduceIte, Bool.false_eq_true]; done) | (simp only [prF, h_1, h_2, h_3, h_4, h_5, ↓reduceIte, Bool.false_eq_true]; rfl))))) (mmv0 (congrArg Value.int (by first | exact (nI_1 _).symm | rfl | (rw [acc_s]; first | rfl | (simp only [prF, h_1, h_2, h_3, h_4, h_5, ↓reduceIte, Bool.false_eq_true]; done) | (simp only [prF, h_1, h_2, h_3, h_4, h_5, ↓reduceIte, Bool.false_eq_true]; rfl))))) (ih14 (_) (by omega) (i + 1) (by omega) rfl)
          ·
            refine ab_goto (tgt := 64) hX dX12_proof_32 (by decide) ?_
            refine ab_iinc hX dX12_proof_64 mm3 rfl (by decide) rfl ?_
            refine ab_goto (tgt := 14) hX dX12_proof_67 (by decide) ?_
            exact ab_pm4 mm1 (mmv2 (congrArg Value.int (by first | exact (nI_1 _).symm | rfl | (rw [acc_s]; first | rfl | (simp only [prF, h_1, h_2, h_3, ↓reduceIte, Bool.false_eq_true]; done) | (simp only [prF, h_1, h_2, h_3, ↓reduceIte, Bool.false_eq_true]; rfl))))) (mmv3 (congrArg Value.int (by first | exact (nI_1 _).symm | rfl | (rw [acc_s]; first | rfl | (simp only [prF, h_1, h_2, h_3, ↓reduceIte, Bool.false_eq_true]; done) | (simp only [prF, h_1, h_2, h_3, ↓reduceIte, Bool.false_eq_true]; rfl))))) (mmv0 (congrArg Value.int (by first | exact (nI_1 _).symm | rfl | (rw [acc_s]; first | rfl | (simp only [prF, h_1, h_2, h_3, ↓reduceIte, Bool.false_eq_true]; done) | (simp only [prF, h_1, h_2, h_3, ↓reduceIte, Bool.false_eq_true]; rfl))))) (ih14 (_) (by omega) (i + 1) (by omega) rfl)
    exact ab_pm4 mm2 (mmv3 (congrArg Value.int (by rfl))) (mmv1 (congrArg Value.int (by rfl))) (mmv0 (congrArg Value.int (by rfl))) (L14 _ 0 (by omega) rfl)
  ·
    refine ab_iconst (v := (-1)) hX dX12_proof_7 (by decide) ?_
    exact ab_ireturn hX hF dX12_proof_8 rfl (by rfl) (congrArg some (congrArg Value.int (by subst hP; first | rfl | (simp only [proofM, h_1, ↓reduceIte, Bool.false_eq_true]; done) | (simp only [proofM, h_1, ↓reduceIte, Bool.false_eq_true]; rfl) | (unfold proofM; (repeat' split) <;> first | rfl | contradiction | (simp_all; done))))) (by rfl)
theorem cm_X12_slipped {G : ab_G} (hG : ab_GG G) {A : List ab_E} {s : MS} {B : List ab_E} (hA : A.length = 42)  {nl nw ns : Nat} (hI : mI s nl nw ns)  : ab_CM G mX12_slipped [.ref 42] (mH A s B) (some (.int (slippedM s nl ns))) (mH A s B) := by
  refine ab_meth (l0 := [(0, .ref 42)]) hG (by decide +kernel) rfl (Nat.le_of_ble_eq_true rfl) (Nat.le_refl _) (Nat.le_refl _) (fun X hX hF => ?_)
  obtain ⟨hl, hl6, hw, hw5, hs, hs10⟩ := id hI
  obtain ⟨P, hP⟩ : ∃ P, P = 2 ^ ns := ⟨_, rfl⟩
  have hp_ : P ≤ 1024 := hP ▸ pw2b hs10
  refine ab_bipush (v := (-4)) hX dX12_slipped_0 (by decide) ?_
  refine ab_istore_n hX dX12_slipped_2 rfl (by decide) rfl ?_
  refine ab_iconst (v := 0) hX dX12_slipped_3 (by decide) ?_
  refine ab_istore_n hX dX12_slipped_4 rfl (by decide) rfl ?_
  have L5 : ∀ (k5_ : Nat) (i : Nat) (hi_ : i ≤ P), k5_ = P - i → ab_WA G mX12_slipped X 5 [(0, .ref 42), (1, .int (acc (slpF s nl ns) (-4) i)), (2, .int (nI i))] [] (mH A s B) := by
    intro k5_
    induction k5_ using Nat.strongRecOn with
    | _ k5_ ih5 =>
      intro i hi_ hk5_
      refine ab_iload_n hX dX12_slipped_5 mm2 ?_
      refine ab_iconst (v := 1) hX dX12_slipped_6 (by decide) ?_
      refine ab_aload_n hX dX12_slipped_7 mm0 ?_
      refine ab_getfield hX dX12_slipped_8 (fs_X12_51_13 rfl) (mg_o hA) rfl ?_
      refine ab_ishl hX dX12_slipped_11 ?_
      refine ab_icmpge (tgt := 97) hX dX12_slipped_12 (by decide) (fun h_1 => ?_) (fun h_1 => ?_)
      ·
        have hx_ := ctE (N := P) h_1 (by rw [hs, hP]; exact pw2 _ (by omega)) (by omega) (by omega)
        obtain rfl : P = i := by omega
        refine ab_iload_n hX dX12_slipped_97 mm1 ?_
        exact ab_ireturn hX hF dX12_slipped_98 rfl (by rfl) (congrArg some (congrArg Value.int (by subst hP; rfl))) (by rfl)
      ·
        have hlt_ := ctL (N := P) h_1 (by rw [hs, hP]; exact pw2 _ (by omega)) (by omega) (by omega)
        refine ab_iload_n hX dX12_slipped_15 mm2 ?_
        refine ab_iload_n hX dX12_slipped_16 mm1 ?_
        refine ab_callS2r hX dX12_slipped_17 ss_X12_slipped_173 (cm_X12_isBetter hG) (Nat.le_of_ble_eq_true rfl) ?_
        refine ab_ifneB (tgt := 26) hX dX12_slipped_20 (by decide) (fun h_2 => ?_) (fun h_2 => ?_)
        ·
          refine ab_aload_n hX dX12_slipped_26 mm0 ?_
          refine ab_iconst (v := 1) hX dX12_slipped_27 (by decide) ?_
          refine ab_aload_n hX dX12_slipped_28 mm0 ?_
          refine ab_getfield hX dX12_slipped_29 (fs_X12_51_13 rfl) (mg_o hA) rfl ?_
          refine ab_ishl hX dX12_slipped_32 ?_
          refine ab_iconst (v := 1) hX dX12_slipped_33 (by decide) ?_
          refine ab_isub hX dX12_slipped_34 ?_
          refine ab_iload_n hX dX12_slipped_35 mm2 ?_
          refine ab_iconst (v := (-1)) hX dX12_slipped_36 (by decide) ?_
          refine ab_ixor hX dX12_slipped_37 ?_
          refine ab_iand hX dX12_slipped_38 ?_
          refine ab_callV1r hX dX12_slipped_39 (mg_o hA) ss_X12_slipped_148 (cm_X12_leftBy hG hA hI) (Nat.le_of_ble_eq_true rfl) ?_
          refine ab_lstore_n hX dX12_slipped_42 rfl (by decide) rfl ?_
          refine ab_iconst (v := 0) hX dX12_slipped_43 (by decide) ?_
          refine ab_istore hX dX12_slipped_44 (by decide) rfl ?_
          have L46 : ∀ (k46_ : Nat) (j : Nat) (hj_ : j ≤ ns), k46_ = ns - j → ab_WA G mX12_slipped X 46 [(0, .ref 42), (1, .int (acc (slpF s nl ns) (-4) i)), (2, .int (nI i)), (3, .long (acc (siF s (nI i)) (leftI s nl ns (((1 : Int32) <<< (s.1 5 &&& 31) - 1) &&& (nI i ^^^ (-1)))) j)), (5, .int (nI j))] [] (mH A s B) := by
            intro k46_
            induction k46_ using Nat.strongRecOn with
            | _ k46_ ih46 =>
              intro j hj_ hk46_
              refine ab_iload hX dX12_slipped_46 mm4 ?_
              refine ab_aload_n hX dX12_slipped_48 mm0 ?_
              refine ab_getfield hX dX12_slipped_49 (fs_X12_51_13 rfl) (mg_o hA) rfl ?_
              refine ab_icmpge (tgt := 83) hX dX12_slipped_52 (by decide) (fun h_3 => ?_) (fun h_3 => ?_)
              ·
                have hx_ := ctE (N := ns) h_3 (by exact hs) (by omega) (by omega)
                obtain rfl : ns = j := by omega
                refine ab_lload_n hX dX12_slipped_83 mm3 ?_
                refine ab_lconst (v := 0) hX dX12_slipped_84 rfl ?_
                refine ab_lcmp hX dX12_slipped_85 ?_
                refine ab_ifeqC (tgt := 91) hX dX12_slipped_86 (by decide) (fun h_4 => ?_) (fun h_4 => ?_)
                ·
                  refine ab_iinc hX dX12_slipped_91 mm2 rfl (by decide) rfl ?_
                  refine ab_goto (tgt := 5) hX dX12_slipped_94 (by decide) ?_
                  exact ab_pm3 mm1 (mmv2 (congrArg Value.int (by first | exact (nI_1 _).symm | rfl | (rw [acc_s]; first | rfl | (simp only [slpF, h_1, h_2, h_3, h_4, ↓reduceIte, Bool.false_eq_true]; done) | (simp only [slpF, h_1, h_2, h_3, h_4, ↓reduceIte, Bool.false_eq_true]; rfl))))) (mmv0 (congrArg Value.int (by first | exact (nI_1 _).symm | rfl | (rw [acc_s]; first | rfl | (simp only [slpF, h_1, h_2, h_3, h_4, ↓reduceIte, Bool.false_eq_true]; done) | (simp only [slpF, h_1, h_2, h_3, h_4, ↓reduceIte, Bool.false_eq_true]; rfl))))) (ih5 (_) (by omega) (i + 1) (by omega) rfl)
                ·
                  refine ab_iload_n hX dX12_slipped_89 mm2 ?_
                  refine ab_istore_n hX dX12_slipped_90 rfl (by decide) rfl ?_
                  refine ab_iinc hX dX12_slipped_91 mm2 rfl (by decide) rfl ?_
                  refine ab_goto (tgt := 5) hX dX12_slipped_94 (by decide) ?_
                  exact ab_pm3 mm2 (mmv1 (congrArg Value.int (by first | exact (nI_1 _).symm | rfl | (rw [acc_s]; first | rfl | (simp only [slpF, h_1, h_2, h_3, h_4, ↓reduceIte, Bool.false_eq_true]; done) | (simp only [slpF, h_1, h_2, h_3, h_4, ↓reduceIte, Bool.false_eq_true]; rfl))))) (mmv0 (congrArg Value.int (by first | exact (nI_1 _).symm | rfl | (rw [acc_s]; first | rfl | (simp only [slpF, h_1, h_2, h_3, h_4, ↓reduceIte, Bool.false_eq_true]; done) | (simp only [slpF, h_1, h_2, h_3, h_4, ↓reduceIte, Bool.false_eq_true]; rfl))))) (ih5 (_) (by omega) (i + 1) (by omega) rfl)
              ·
                have hltj_ := ctL (N := ns) h_3 (by exact hs) (by omega) (by omega)
                refine ab_iload_n hX dX12_slipped_55 mm2 ?_
                refine ab_iload hX dX12_slipped_56 mm4 ?_
                refine ab_callS2r hX dX12_slipped_58 ss_X12_slipped_54 (cm_X12_has hG) (Nat.le_of_ble_eq_true rfl) ?_
                refine ab_ifeqB (tgt := 77) hX dX12_slipped_61 (by decide) (fun h_5 => ?_) (fun h_5 => ?_)
                ·
                  refine ab_iinc hX dX12_slipped_77 mm4 rfl (by decide) rfl ?_
                  refine ab_goto (tgt := 46) hX dX12_slipped_80 (by decide) ?_
                  exact ab_pm5 mm1 (mmv2 (congrArg Value.int (by first | exact (nI_1 _).symm | rfl | (rw [acc_s]; first | rfl | (simp only [siF, h_1, h_2, h_3, h_5, ↓reduceIte, Bool.false_eq_true]; done) | (simp only [siF, h_1, h_2, h_3, h_5, ↓reduceIte, Bool.false_eq_true]; rfl))))) (mmv3 (congrArg Value.int (by first | exact (nI_1 _).symm | rfl | (rw [acc_s]; first | rfl | (simp only [siF, h_1, h_2, h_3, h_5, ↓reduceIte, Bool.false_eq_true]; done) | (simp only [siF, h_1, h_2, h_3, h_5, ↓reduceIte, Bool.false_eq_true]; rfl))))) (mmv4 (congrArg Value.long (by first | exact (nI_1 _).symm | rfl | (rw [acc_s]; first | rfl | (simp only [siF, h_1, h_2, h_3, h_5, ↓reduceIte, Bool.false_eq_true]; done) | (simp only [siF, h_1, h_2, h_3, h_5, ↓reduceIte, Bool.false_eq_true]; rfl))))) (mmv0 (congrArg Value.int (by first | exact (nI_1 _).symm | rfl | (rw [acc_s]; first | rfl | (simp only [siF, h_1, h_2, h_3, h_5, ↓reduceIte, Bool.false_eq_true]; done) | (simp only [siF, h_1, h_2, h_3, h_5, ↓reduceIte, Bool.false_eq_true]; rfl))))) (ih46 (_) (by omega) (j + 1) (by omega) rfl)
                ·
                  refine ab_lload_n hX dX12_slipped_64 mm3 ?_
                  refine ab_aload_n hX dX12_slipped_65 mm0 ?_
                  refine ab_getfield hX dX12_slipped_66 (fs_X12_16_13 rfl) (mg_o hA) rfl ?_
                  refine ab_iload hX dX12_slipped_69 mm4 ?_
                  refine ab_iald (i := j) hX dX12_slipped_71 (mg_6 hA) rfl (by omega) (by decide) ?_
                  refine ab_callS1r hX dX12_slipped_72 ss_X12_slipped_140 (cm_X12_worldsOf hG) (Nat.le_of_ble_eq_true rfl) ?_
                  refine ab_land hX dX12_slipped_75 ?_
                  refine ab_lstore_n hX dX12_slipped_76 rfl (by decide) rfl ?_
                  refine ab_iinc hX dX12_slipped_77 mm4 rfl (by decide) rfl ?_
                  refine ab_goto (tgt := 46) hX dX12_slipped_80 (by decide) ?_
                  exact ab_pm5 mm2 (mmv3 (congrArg Value.int (by first | exact (nI_1 _).symm | rfl | (rw [acc_s]; first | rfl | (simp only [siF, h_1, h_2, h_3, h_5, ↓reduceIte, Bool.false_eq_true]; done) | (simp only [siF, h_1, h_2, h_3, h_5, ↓reduceIte, Bool.false_eq_true]; rfl))))) (mmv4 (congrArg Value.int (by first | exact (nI_1 _).symm | rfl | (rw [acc_s]; first | rfl | (simp only [siF, h_1, h_2, h_3, h_5, ↓reduceIte, Bool.false_eq_true]; done) | (simp only [siF, h_1, h_2, h_3, h_5, ↓reduceIte, Bool.false_eq_true]; rfl))))) (mmv1 (congrArg Value.long (by first | exact (nI_1 _).symm | rfl | (rw [acc_s]; first | rfl | (simp only [siF, h_1, h_2, h_3, h_5, ↓reduceIte, Bool.false_eq_true]; done) | (simp only [siF, h_1, h_2, h_3, h_5, ↓reduceIte, Bool.false_eq_true]; rfl))))) (mmv0 (congrArg Value.int (by first | exact (nI_1 _).symm | rfl | (rw [acc_s]; first | rfl | (simp only [siF, h_1, h_2, h_3, h_5, ↓reduceIte, Bool.false_eq_true]; done) | (simp only [siF, h_1, h_2, h_3, h_5, ↓reduceIte, Bool.false_eq_true]; rfl))))) (ih46 (_) (by omega) (j + 1) (by omega) rfl)
          exact ab_pm5 mm2 (mmv3 (congrArg Value.int (by rfl))) (mmv4 (congrArg Value.int (by rfl))) (mmv1 (congrArg Value.long (by rfl))) (mmv0 (congrArg Value.int (by rfl))) (L46 _ 0 (by omega) rfl)
        ·
          refine ab_goto (tgt := 91) hX dX12_slipped_23 (by decide) ?_
          refine ab_iinc hX dX12_slipped_91 mm2 rfl (by decide) rfl ?_
          refine ab_goto (tgt := 5) hX dX12_slipped_94 (by decide) ?_
          exact ab_pm3 mm1 (mmv2 (congrArg Value.int (by first | exact (nI_1 _).symm | rfl | (rw [acc_s]; first | rfl | (simp only [slpF, h_1, h_2, ↓reduceIte, Bool.false_eq_true]; done) | (simp only [slpF, h_1, h_2, ↓reduceIte, Bool.false_eq_true]; rfl))))) (mmv0 (congrArg Value.int (by first | exact (nI_1 _).symm | rfl | (rw [acc_s]; first | rfl | (simp only [slpF, h_1, h_2, ↓reduceIte, Bool.false_eq_true]; done) | (simp only [slpF, h_1, h_2, ↓reduceIte, Bool.false_eq_true]; rfl))))) (ih5 (_) (by omega) (i + 1) (by omega) rfl)
  exact ab_pm3 mm2 (mmv1 (congrArg Value.int (by rfl))) (mmv0 (congrArg Value.int (by rfl))) (L5 _ 0 (by omega) rfl)
theorem cm_X12_ask {G : ab_G} (hG : ab_GG G) {A : List ab_E} {s : MS} {B : List ab_E} (hA : A.length = 42)  {nl nw ns : Nat} (hI : mI s nl nw ns)  : ab_CM G mX12_ask [.ref 42] (mH A s B) (some (.int (askM s nl ns))) (mH A s B) := by
  refine ab_meth (l0 := [(0, .ref 42)]) hG (by decide +kernel) rfl (Nat.le_of_ble_eq_true rfl) (Nat.le_refl _) (Nat.le_refl _) (fun X hX hF => ?_)
  obtain ⟨hl, hl6, hw, hw5, hs, hs10⟩ := id hI
  refine ab_aload_n hX dX12_ask_0 mm0 ?_
  refine ab_callV0r hX dX12_ask_1 (mg_o hA) ss_X12_ask_153 (cm_X12_left hG hA hI) (Nat.le_of_ble_eq_true rfl) ?_
  refine ab_lstore_n hX dX12_ask_4 rfl (by decide) rfl ?_
  refine ab_lload_n hX dX12_ask_5 mm0 ?_
  refine ab_lconst (v := 0) hX dX12_ask_6 rfl ?_
  refine ab_lcmp hX dX12_ask_7 ?_
  refine ab_ifneC (tgt := 14) hX dX12_ask_8 (by decide) (fun h_1 => ?_) (fun h_1 => ?_)
  ·
    refine ab_bipush (v := (-4)) hX dX12_ask_14 (by decide) ?_
    refine ab_istore_n hX dX12_ask_16 rfl (by decide) rfl ?_
    refine ab_iconst (v := (-1)) hX dX12_ask_17 (by decide) ?_
    refine ab_istore hX dX12_ask_18 (by decide) rfl ?_
    refine ab_iconst (v := 0) hX dX12_ask_20 (by decide) ?_
    refine ab_istore hX dX12_ask_21 (by decide) rfl ?_
    have L23 : ∀ (k23_ : Nat) (i : Nat) (hi_ : i ≤ 6), k23_ = 6 - i → ab_WA G mX12_ask X 23 [(0, .ref 42), (1, .long (leftA s nl ns)), (3, .int (acc (askF (leftA s nl ns)) (-4, -1) i).1), (4, .int (acc (askF (leftA s nl ns)) (-4, -1) i).2), (5, .int (nI i))] [] (mH A s B) := by
      intro k23_
      induction k23_ using Nat.strongRecOn with
      | _ k23_ ih23 =>
        intro i hi_ hk23_
        refine ab_iload hX dX12_ask_23 mm4 ?_
        refine ab_bipush (v := 6) hX dX12_ask_25 (by decide) ?_
        refine ab_icmpge (tgt := 110) hX dX12_ask_27 (by decide) (fun h_2 => ?_) (fun h_2 => ?_)
        ·
          have hx_ := ctE (N := 6) h_2 (by rfl) (by omega) (by omega)
          obtain rfl : 6 = i := by omega
          refine ab_iload_n hX dX12_ask_110 mm2 ?_
          exact ab_ireturn hX hF dX12_ask_111 rfl (by rfl) (congrArg some (congrArg Value.int (by first | rfl | (simp only [askM, h_1, h_2, ↓reduceIte, Bool.false_eq_true]; done) | (simp only [askM, h_1, h_2, ↓reduceIte, Bool.false_eq_true]; rfl) | (unfold askM; (repeat' split) <;> first | rfl | contradiction | (simp_all; done))))) (by rfl)
        ·
          have hlt_ := ctL (N := 6) h_2 (by rfl) (by omega) (by omega)
          refine ab_iconst (v := 0) hX dX12_ask_30 (by decide) ?_
          refine ab_istore hX dX12_ask_31 (by decide) rfl ?_
          refine ab_iconst (v := 0) hX dX12_ask_33 (by decide) ?_
          refine ab_istore hX dX12_ask_34 (by decide) rfl ?_
          have L36 : ∀ (k36_ : Nat) (j : Nat) (hj_ : j ≤ 64), k36_ = 64 - j → ab_WA G mX12_ask X 36 [(0, .ref 42), (1, .long (leftA s nl ns)), (3, .int (acc (askF (leftA s nl ns)) (-4, -1) i).1), (4, .int (acc (askF (leftA s nl ns)) (-4, -1) i).2), (5, .int (nI i)), (6, .int (acc (haveF (leftA s nl ns) (nI i)) 0 j)), (7, .int (nI j))] [] (mH A s B) := by
            intro k36_
            induction k36_ using Nat.strongRecOn with
            | _ k36_ ih36 =>
              intro j hj_ hk36_
              refine ab_iload hX dX12_ask_36 mm6 ?_
              refine ab_bipush (v := 64) hX dX12_ask_38 (by decide) ?_
              refine ab_icmpge (tgt := 73) hX dX12_ask_40 (by decide) (fun h_3 => ?_) (fun h_3 => ?_)
              ·
                have hx_ := ctE (N := 64) h_3 (by rfl) (by omega) (by omega)
                obtain rfl : 64 = j := by omega
                refine ab_iload hX dX12_ask_73 mm5 ?_
                refine ab_lload_n hX dX12_ask_75 mm1 ?_
                refine ab_callS1r hX dX12_ask_76 ss_X12_ask_156 (cm_J13_bitCount_95d88 hG) (Nat.le_of_ble_eq_true rfl) ?_
                refine ab_iload hX dX12_ask_79 mm5 ?_
                refine ab_isub hX dX12_ask_81 ?_
                refine ab_mmin hX dX12_ask_82 tw_1278 (by decide) (Nat.le_of_ble_eq_true rfl) ?_
                refine ab_istore hX dX12_ask_85 (by decide) rfl ?_
                refine ab_iload hX dX12_ask_87 mm0 ?_
                refine ab_iload hX dX12_ask_89 mm4 ?_
                refine ab_icmpgt (tgt := 97) hX dX12_ask_91 (by decide) (fun h_4 => ?_) (fun h_4 => ?_)
                ·
                  refine ab_iload hX dX12_ask_97 mm0 ?_
                  refine ab_istore hX dX12_ask_99 (by decide) rfl ?_
                  refine ab_iload hX dX12_ask_101 mm5 ?_
                  refine ab_istore_n hX dX12_ask_103 rfl (by decide) rfl ?_
                  refine ab_iinc hX dX12_ask_104 mm5 rfl (by decide) rfl ?_
                  refine ab_goto (tgt := 23) hX dX12_ask_107 (by decide) ?_
                  exact ab_pm5 mm4 (mmv5 (congrArg Value.long (by first | exact (nI_1 _).symm | rfl | (rw [acc_s]; first | rfl | (simp only [askF, h_1, h_2, h_3, h_4, ↓reduceIte, Bool.false_eq_true]; done) | (simp only [askF, h_1, h_2, h_3, h_4, ↓reduceIte, Bool.false_eq_true]; rfl))))) (mmv1 (congrArg Value.int (by first | exact (nI_1 _).symm | rfl | (rw [acc_s]; first | rfl | (simp only [askF, h_1, h_2, h_3, h_4, ↓reduceIte, Bool.false_eq_true]; done) | (simp only [askF, h_1, h_2, h_3, h_4, ↓reduceIte, Bool.false_eq_true]; rfl))))) (mmv2 (congrArg Value.int (by first | exact (nI_1 _).symm | rfl | (rw [acc_s]; first | rfl | (simp only [askF, h_1, h_2, h_3, h_4, ↓reduceIte, Bool.false_eq_true]; done) | (simp only [askF, h_1, h_2, h_3, h_4, ↓reduceIte, Bool.false_eq_true]; rfl))))) (mmv0 (congrArg Value.int (by first | exact (nI_1 _).symm | rfl | (rw [acc_s]; first | rfl | (simp only [askF, h_1, h_2, h_3, h_4, ↓reduceIte, Bool.false_eq_true]; done) | (simp only [askF, h_1, h_2, h_3, h_4, ↓reduceIte, Bool.false_eq_true]; rfl))))) (ih23 (_) (by omega) (i + 1) (by omega) rfl)
                ·
                  refine ab_goto (tgt := 104) hX dX12_ask_94 (by decide) ?_
                  refine ab_iinc hX dX12_ask_104 mm5 rfl (by decide) rfl ?_
                  refine ab_goto (tgt := 23) hX dX12_ask_107 (by decide) ?_
                  exact ab_pm5 mm2 (mmv3 (congrArg Value.long (by first | exact (nI_1 _).symm | rfl | (rw [acc_s]; first | rfl | (simp only [askF, h_1, h_2, h_3, h_4, ↓reduceIte, Bool.false_eq_true]; done) | (simp only [askF, h_1, h_2, h_3, h_4, ↓reduceIte, Bool.false_eq_true]; rfl))))) (mmv4 (congrArg Value.int (by first | exact (nI_1 _).symm | rfl | (rw [acc_s]; first | rfl | (simp only [askF, h_1, h_2, h_3, h_4, ↓reduceIte, Bool.false_eq_true]; done) | (simp only [askF, h_1, h_2, h_3, h_4, ↓reduceIte, Bool.false_eq_true]; rfl))))) (mmv5 (congrArg Value.int (by first | exact (nI_1 _).symm | rfl | (rw [acc_s]; first | rfl | (simp only [askF, h_1, h_2, h_3, h_4, ↓reduceIte, Bool.false_eq_true]; done) | (simp only [askF, h_1, h_2, h_3, h_4, ↓reduceIte, Bool.false_eq_true]; rfl))))) (mmv0 (congrArg Value.int (by first | exact (nI_1 _).symm | rfl | (rw [acc_s]; first | rfl | (simp only [askF, h_1, h_2, h_3, h_4, ↓reduceIte, Bool.false_eq_true]; done) | (simp only [askF, h_1, h_2, h_3, h_4, ↓reduceIte, Bool.false_eq_true]; rfl))))) (ih23 (_) (by omega) (i + 1) (by omega) rfl)
              ·
                have hltj_ := ctL (N := 64) h_3 (by rfl) (by omega) (by omega)
                refine ab_lload_n hX dX12_ask_43 mm1 ?_
                refine ab_iload hX dX12_ask_44 mm6 ?_
                refine ab_lshr hX dX12_ask_46 ?_
                refine ab_lconst (v := 1) hX dX12_ask_47 rfl ?_
                refine ab_land hX dX12_ask_48 ?_
                refine ab_lconst (v := 1) hX dX12_ask_49 rfl ?_
                refine ab_lcmp hX dX12_ask_50 ?_
                refine ab_ifneC (tgt := 67) hX dX12_ask_51 (by decide) (fun h_5 => ?_) (fun h_5 => ?_)
                ·
                  refine ab_iinc hX dX12_ask_67 mm6 rfl (by decide) rfl ?_
                  refine ab_goto (tgt := 36) hX dX12_ask_70 (by decide) ?_
                  exact ab_pm7 mm1 (mmv2 (congrArg Value.long (by first | exact (nI_1 _).symm | rfl | (rw [acc_s]; first | rfl | (simp only [haveF, h_1, h_2, h_3, h_5, ↓reduceIte, Bool.false_eq_true]; done) | (simp only [haveF, h_1, h_2, h_3, h_5, ↓reduceIte, Bool.false_eq_true]; rfl))))) (mmv3 (congrArg Value.int (by first | exact (nI_1 _).symm | rfl | (rw [acc_s]; first | rfl | (simp only [haveF, h_1, h_2, h_3, h_5, ↓reduceIte, Bool.false_eq_true]; done) | (simp only [haveF, h_1, h_2, h_3, h_5, ↓reduceIte, Bool.false_eq_true]; rfl))))) (mmv4 (congrArg Value.int (by first | exact (nI_1 _).symm | rfl | (rw [acc_s]; first | rfl | (simp only [haveF, h_1, h_2, h_3, h_5, ↓reduceIte, Bool.false_eq_true]; done) | (simp only [haveF, h_1, h_2, h_3, h_5, ↓reduceIte, Bool.false_eq_true]; rfl))))) (mmv5 (congrArg Value.int (by first | exact (nI_1 _).symm | rfl | (rw [acc_s]; first | rfl | (simp only [haveF, h_1, h_2, h_3, h_5, ↓reduceIte, Bool.false_eq_true]; done) | (simp only [haveF, h_1, h_2, h_3, h_5, ↓reduceIte, Bool.false_eq_true]; rfl))))) (mmv6 (congrArg Value.int (by first | exact (nI_1 _).symm | rfl | (rw [acc_s]; first | rfl | (simp only [haveF, h_1, h_2, h_3, h_5, ↓reduceIte, Bool.false_eq_true]; done) | (simp only [haveF, h_1, h_2, h_3, h_5, ↓reduceIte, Bool.false_eq_true]; rfl))))) (mmv0 (congrArg Value.int (by first | exact (nI_1 _).symm | rfl | (rw [acc_s]; first | rfl | (simp only [haveF, h_1, h_2, h_3, h_5, ↓reduceIte, Bool.false_eq_true]; done) | (simp only [haveF, h_1, h_2, h_3, h_5, ↓reduceIte, Bool.false_eq_true]; rfl))))) (ih36 (_) (by omega) (j + 1) (by omega) rfl)
                ·
                  refine ab_iload hX dX12_ask_54 mm6 ?_
                  refine ab_iload hX dX12_ask_56 mm4 ?_
                  refine ab_callS2r hX dX12_ask_58 ss_X12_ask_54 (cm_X12_has hG) (Nat.le_of_ble_eq_true rfl) ?_
                  refine ab_ifeqB (tgt := 67) hX dX12_ask_61 (by decide) (fun h_6 => ?_) (fun h_6 => ?_)
                  ·
                    refine ab_iinc hX dX12_ask_67 mm6 rfl (by decide) rfl ?_
                    refine ab_goto (tgt := 36) hX dX12_ask_70 (by decide) ?_
                    exact ab_pm7 mm1 (mmv2 (congrArg Value.long (by first | exact (nI_1 _).symm | rfl | (rw [acc_s]; first | rfl | (simp only [haveF, h_1, h_2, h_3, h_5, h_6, ↓reduceIte, Bool.false_eq_true]; done) | (simp only [haveF, h_1, h_2, h_3, h_5, h_6, ↓reduceIte, Bool.false_eq_true]; rfl))))) (mmv3 (congrArg Value.int (by first | exact (nI_1 _).symm | rfl | (rw [acc_s]; first | rfl | (simp only [haveF, h_1, h_2, h_3, h_5, h_6, ↓reduceIte, Bool.false_eq_true]; done) | (simp only [haveF, h_1, h_2, h_3, h_5, h_6, ↓reduceIte, Bool.false_eq_true]; rfl))))) (mmv4 (congrArg Value.int (by first | exact (nI_1 _).symm | rfl | (rw [acc_s]; first | rfl | (simp only [haveF, h_1, h_2, h_3, h_5, h_6, ↓reduceIte, Bool.false_eq_true]; done) | (simp only [haveF, h_1, h_2, h_3, h_5, h_6, ↓reduceIte, Bool.false_eq_true]; rfl))))) (mmv5 (congrArg Value.int (by first | exact (nI_1 _).symm | rfl | (rw [acc_s]; first | rfl | (simp only [haveF, h_1, h_2, h_3, h_5, h_6, ↓reduceIte, Bool.false_eq_true]; done) | (simp only [haveF, h_1, h_2, h_3, h_5, h_6, ↓reduceIte, Bool.false_eq_true]; rfl))))) (mmv6 (congrArg Value.int (by first | exact (nI_1 _).symm | rfl | (rw [acc_s]; first | rfl | (simp only [haveF, h_1, h_2, h_3, h_5, h_6, ↓reduceIte, Bool.false_eq_true]; done) | (simp only [haveF, h_1, h_2, h_3, h_5, h_6, ↓reduceIte, Bool.false_eq_true]; rfl))))) (mmv0 (congrArg Value.int (by first | exact (nI_1 _).symm | rfl | (rw [acc_s]; first | rfl | (simp only [haveF, h_1, h_2, h_3, h_5, h_6, ↓reduceIte, Bool.false_eq_true]; done) | (simp only [haveF, h_1, h_2, h_3, h_5, h_6, ↓reduceIte, Bool.false_eq_true]; rfl))))) (ih36 (_) (by omega) (j + 1) (by omega) rfl)
                  ·
                    refine ab_iinc hX dX12_ask_64 mm5 rfl (by decide) rfl ?_
                    refine ab_iinc hX dX12_ask_67 mm6 rfl (by decide) rfl ?_
                    refine ab_goto (tgt := 36) hX dX12_ask_70 (by decide) ?_
                    exact ab_pm7 mm2 (mmv3 (congrArg Value.long (by first | exact (nI_1 _).symm | rfl | (rw [acc_s]; first | rfl | (simp only [haveF, h_1, h_2, h_3, h_5, h_6, ↓reduceIte, Bool.false_eq_true]; done) | (simp only [haveF, h_1, h_2, h_3, h_5, h_6, ↓reduceIte, Bool.false_eq_true]; rfl))))) (mmv4 (congrArg Value.int (by first | exact (nI_1 _).symm | rfl | (rw [acc_s]; first | rfl | (simp only [haveF, h_1, h_2, h_3, h_5, h_6, ↓reduceIte, Bool.false_eq_true]; done) | (simp only [haveF, h_1, h_2, h_3, h_5, h_6, ↓reduceIte, Bool.false_eq_true]; rfl))))) (mmv5 (congrArg Value.int (by first | exact (nI_1 _).symm | rfl | (rw [acc_s]; first | rfl | (simp only [haveF, h_1, h_2, h_3, h_5, h_6, ↓reduceIte, Bool.false_eq_true]; done) | (simp only [haveF, h_1, h_2, h_3, h_5, h_6, ↓reduceIte, Bool.false_eq_true]; rfl))))) (mmv6 (congrArg Value.int (by first | exact (nI_1 _).symm | rfl | (rw [acc_s]; first | rfl | (simp only [haveF, h_1, h_2, h_3, h_5, h_6, ↓reduceIte, Bool.false_eq_true]; done) | (simp only [haveF, h_1, h_2, h_3, h_5, h_6, ↓reduceIte, Bool.false_eq_true]; rfl))))) (mmv1 (congrArg Value.int (by first | exact (nI_1 _).symm | rfl | (rw [acc_s]; first | rfl | (simp only [haveF, h_1, h_2, h_3, h_5, h_6, ↓reduceIte, Bool.false_eq_true]; done) | (simp only [haveF, h_1, h_2, h_3, h_5, h_6, ↓reduceIte, Bool.false_eq_true]; rfl))))) (mmv0 (congrArg Value.int (by first | exact (nI_1 _).symm | rfl | (rw [acc_s]; first | rfl | (simp only [haveF, h_1, h_2, h_3, h_5, h_6, ↓reduceIte, Bool.false_eq_true]; done) | (simp only [haveF, h_1, h_2, h_3, h_5, h_6, ↓reduceIte, Bool.false_eq_true]; rfl))))) (ih36 (_) (by omega) (j + 1) (by omega) rfl)
          exact ab_pm7 mm2 (mmv3 (congrArg Value.long (by rfl))) (mmv4 (congrArg Value.int (by rfl))) (mmv5 (congrArg Value.int (by rfl))) (mmv6 (congrArg Value.int (by rfl))) (mmv1 (congrArg Value.int (by rfl))) (mmv0 (congrArg Value.int (by rfl))) (L36 _ 0 (by omega) rfl)
    exact ab_pm5 mm4 (mmv3 (congrArg Value.long (by rfl))) (mmv2 (congrArg Value.int (by rfl))) (mmv1 (congrArg Value.int (by rfl))) (mmv0 (congrArg Value.int (by rfl))) (L23 _ 0 (by omega) rfl)
  ·
    refine ab_bipush (v := (-4)) hX dX12_ask_11 (by decide) ?_
    exact ab_ireturn hX hF dX12_ask_13 rfl (by rfl) (congrArg some (congrArg Value.int (by first | rfl | (simp only [askM, h_1, ↓reduceIte, Bool.false_eq_true]; done) | (simp only [askM, h_1, ↓reduceIte, Bool.false_eq_true]; rfl) | (unfold askM; (repeat' split) <;> first | rfl | contradiction | (simp_all; done))))) (by rfl)
theorem cm_X12_saidBy {G : ab_G} (hG : ab_GG G) {A : List ab_E} {s : MS} {B : List ab_E} (hA : A.length = 42) {p : Int32} {nl nw ns : Nat} (hI : mI s nl nw ns)  : ab_CM G mX12_saidBy [.ref 42, .int p] (mH A s B) (some (.int (saidByI s ns p))) (mH A s B) := by
  refine ab_meth (l0 := [(0, .ref 42), (1, .int p)]) hG (by decide +kernel) rfl (Nat.le_of_ble_eq_true rfl) (Nat.le_refl _) (Nat.le_refl _) (fun X hX hF => ?_)
  obtain ⟨hl, hl6, hw, hw5, hs, hs10⟩ := id hI
  refine ab_iconst (v := 0) hX dX12_saidBy_0 (by decide) ?_
  refine ab_istore_n hX dX12_saidBy_1 rfl (by decide) rfl ?_
  refine ab_iconst (v := 0) hX dX12_saidBy_2 (by decide) ?_
  refine ab_istore_n hX dX12_saidBy_3 rfl (by decide) rfl ?_
  have L4 : ∀ (k4_ : Nat) (i : Nat) (hi_ : i ≤ ns), k4_ = ns - i → ab_WA G mX12_saidBy X 4 [(0, .ref 42), (1, .int p), (2, .int (acc (sbF s p) 0 i)), (3, .int (nI i))] [] (mH A s B) := by
    intro k4_
    induction k4_ using Nat.strongRecOn with
    | _ k4_ ih4 =>
      intro i hi_ hk4_
      refine ab_iload_n hX dX12_saidBy_4 mm3 ?_
      refine ab_aload_n hX dX12_saidBy_5 mm0 ?_
      refine ab_getfield hX dX12_saidBy_6 (fs_X12_51_13 rfl) (mg_o hA) rfl ?_
      refine ab_icmpge (tgt := 37) hX dX12_saidBy_9 (by decide) (fun h_1 => ?_) (fun h_1 => ?_)
      ·
        have hx_ := ctE (N := ns) h_1 (by exact hs) (by omega) (by omega)
        obtain rfl : ns = i := by omega
        refine ab_iload_n hX dX12_saidBy_37 mm2 ?_
        exact ab_ireturn hX hF dX12_saidBy_38 rfl (by rfl) (congrArg some (congrArg Value.int (by rfl))) (by rfl)
      ·
        have hlt_ := ctL (N := ns) h_1 (by exact hs) (by omega) (by omega)
        refine ab_iload_n hX dX12_saidBy_12 mm1 ?_
        refine ab_aload_n hX dX12_saidBy_13 mm0 ?_
        refine ab_getfield hX dX12_saidBy_14 (fs_X12_19_13 rfl) (mg_o hA) rfl ?_
        refine ab_iload_n hX dX12_saidBy_17 mm3 ?_
        refine ab_iald (i := i) hX dX12_saidBy_18 (mg_7 hA) rfl (by omega) (by decide) ?_
        refine ab_callS2r hX dX12_saidBy_19 ss_X12_saidBy_54 (cm_X12_has hG) (Nat.le_of_ble_eq_true rfl) ?_
        refine ab_ifeqB (tgt := 31) hX dX12_saidBy_22 (by decide) (fun h_2 => ?_) (fun h_2 => ?_)
        ·
          refine ab_iinc hX dX12_saidBy_31 mm3 rfl (by decide) rfl ?_
          refine ab_goto (tgt := 4) hX dX12_saidBy_34 (by decide) ?_
          exact ab_pm4 mm1 (mmv2 (congrArg Value.int (by first | exact (nI_1 _).symm | rfl | (rw [acc_s]; first | rfl | (simp only [sbF, h_1, h_2, ↓reduceIte, Bool.false_eq_true]; done) | (simp only [sbF, h_1, h_2, ↓reduceIte, Bool.false_eq_true]; rfl))))) (mmv3 (congrArg Value.int (by first | exact (nI_1 _).symm | rfl | (rw [acc_s]; first | rfl | (simp only [sbF, h_1, h_2, ↓reduceIte, Bool.false_eq_true]; done) | (simp only [sbF, h_1, h_2, ↓reduceIte, Bool.false_eq_true]; rfl))))) (mmv0 (congrArg Value.int (by first | exact (nI_1 _).symm | rfl | (rw [acc_s]; first | rfl | (simp only [sbF, h_1, h_2, ↓reduceIte, Bool.false_eq_true]; done) | (simp only [sbF, h_1, h_2, ↓reduceIte, Bool.false_eq_true]; rfl))))) (ih4 (_) (by omega) (i + 1) (by omega) rfl)
        ·
          refine ab_iload_n hX dX12_saidBy_25 mm2 ?_
          refine ab_iconst (v := 1) hX dX12_saidBy_26 (by decide) ?_
          refine ab_iload_n hX dX12_saidBy_27 mm3 ?_
          refine ab_ishl hX dX12_saidBy_28 ?_
          refine ab_ior hX dX12_saidBy_29 ?_
          refine ab_istore_n hX dX12_saidBy_30 rfl (by decide) rfl ?_
          refine ab_iinc hX dX12_saidBy_31 mm3 rfl (by decide) rfl ?_
          refine ab_goto (tgt := 4) hX dX12_saidBy_34 (by decide) ?_
          exact ab_pm4 mm2 (mmv3 (congrArg Value.int (by first | exact (nI_1 _).symm | rfl | (rw [acc_s]; first | rfl | (simp only [sbF, h_1, h_2, ↓reduceIte, Bool.false_eq_true]; done) | (simp only [sbF, h_1, h_2, ↓reduceIte, Bool.false_eq_true]; rfl))))) (mmv1 (congrArg Value.int (by first | exact (nI_1 _).symm | rfl | (rw [acc_s]; first | rfl | (simp only [sbF, h_1, h_2, ↓reduceIte, Bool.false_eq_true]; done) | (simp only [sbF, h_1, h_2, ↓reduceIte, Bool.false_eq_true]; rfl))))) (mmv0 (congrArg Value.int (by first | exact (nI_1 _).symm | rfl | (rw [acc_s]; first | rfl | (simp only [sbF, h_1, h_2, ↓reduceIte, Bool.false_eq_true]; done) | (simp only [sbF, h_1, h_2, ↓reduceIte, Bool.false_eq_true]; rfl))))) (ih4 (_) (by omega) (i + 1) (by omega) rfl)
  exact ab_pm4 mm2 (mmv3 (congrArg Value.int (by rfl))) (mmv1 (congrArg Value.int (by rfl))) (mmv0 (congrArg Value.int (by rfl))) (L4 _ 0 (by omega) rfl)
theorem cm_X12_isPlain {G : ab_G} (hG : ab_GG G) {A : List ab_E} {s : MS} {B : List ab_E} (hA : A.length = 42) {p : Int32} {nl nw ns : Nat} (hI : mI s nl nw ns)  : ab_CM G mX12_isPlain [.ref 42, .int p] (mH A s B) (some (.int (bi (plB s nl ns p)))) (mH A s B) := by
  refine ab_meth (l0 := [(0, .ref 42), (1, .int p)]) hG (by decide +kernel) rfl (Nat.le_of_ble_eq_true rfl) (Nat.le_refl _) (Nat.le_refl _) (fun X hX hF => ?_)
  obtain ⟨hl, hl6, hw, hw5, hs, hs10⟩ := id hI
  refine ab_aload_n hX dX12_isPlain_0 mm0 ?_
  refine ab_aload_n hX dX12_isPlain_1 mm0 ?_
  refine ab_iload_n hX dX12_isPlain_2 mm1 ?_
  refine ab_callV1r hX dX12_isPlain_3 (mg_o hA) ss_X12_isPlain_181 (cm_X12_saidBy hG hA hI) (Nat.le_of_ble_eq_true rfl) ?_
  refine ab_callV1r hX dX12_isPlain_6 (mg_o hA) ss_X12_isPlain_148 (cm_X12_leftBy hG hA hI) (Nat.le_of_ble_eq_true rfl) ?_
  refine ab_callS1r hX dX12_isPlain_9 ss_X12_isPlain_156 (cm_J13_bitCount_95d88 hG) (Nat.le_of_ble_eq_true rfl) ?_
  refine ab_iconst (v := 2) hX dX12_isPlain_12 (by decide) ?_
  refine ab_icmpge (tgt := 20) hX dX12_isPlain_13 (by decide) (fun h_1 => ?_) (fun h_1 => ?_)
  ·
    refine ab_iconst (v := 0) hX dX12_isPlain_20 (by decide) ?_
    exact ab_ireturn hX hF dX12_isPlain_21 rfl (by first | rfl | exact bi_n _) (congrArg some (congrArg Value.int (by simp only [plB, h_1, decide_true, decide_false, Bool.true_and, Bool.false_and, Bool.and_true, Bool.and_false, Bool.not_true, Bool.not_false, Bool.or_true, Bool.true_or, Bool.false_or, Bool.or_false, bi_t, bi_f]))) (by rfl)
  ·
    refine ab_iconst (v := 1) hX dX12_isPlain_16 (by decide) ?_
    refine ab_goto (tgt := 21) hX dX12_isPlain_17 (by decide) ?_
    exact ab_ireturn hX hF dX12_isPlain_21 rfl (by first | rfl | exact bi_n _) (congrArg some (congrArg Value.int (by simp only [plB, h_1, decide_true, decide_false, Bool.true_and, Bool.false_and, Bool.and_true, Bool.and_false, Bool.not_true, Bool.not_false, Bool.or_true, Bool.true_or, Bool.false_or, Bool.or_false, bi_t, bi_f]))) (by rfl)
theorem cm_X12_plain {G : ab_G} (hG : ab_GG G) {A : List ab_E} {s : MS} {B : List ab_E} (hA : A.length = 42)  {nl nw ns : Nat} (hI : mI s nl nw ns)  : ab_CM G mX12_plain [.ref 42] (mH A s B) (some (.int (plainM s nl nw ns))) (mH A s B) := by
  refine ab_meth (l0 := [(0, .ref 42)]) hG (by decide +kernel) rfl (Nat.le_of_ble_eq_true rfl) (Nat.le_refl _) (Nat.le_refl _) (fun X hX hF => ?_)
  obtain ⟨hl, hl6, hw, hw5, hs, hs10⟩ := id hI
  obtain ⟨P, hP⟩ : ∃ P, P = 2 ^ nw := ⟨_, rfl⟩
  have hp_ : P ≤ 1024 := hP ▸ pw2b (by omega)
  refine ab_bipush (v := (-4)) hX dX12_plain_0 (by decide) ?_
  refine ab_istore_n hX dX12_plain_2 rfl (by decide) rfl ?_
  refine ab_iconst (v := 0) hX dX12_plain_3 (by decide) ?_
  refine ab_istore_n hX dX12_plain_4 rfl (by decide) rfl ?_
  have L5 : ∀ (k5_ : Nat) (i : Nat) (hi_ : i ≤ P), k5_ = P - i → ab_WA G mX12_plain X 5 [(0, .ref 42), (1, .int (acc (plF s nl ns) (-4) i)), (2, .int (nI i))] [] (mH A s B) := by
    intro k5_
    induction k5_ using Nat.strongRecOn with
    | _ k5_ ih5 =>
      intro i hi_ hk5_
      refine ab_iload_n hX dX12_plain_5 mm2 ?_
      refine ab_iconst (v := 1) hX dX12_plain_6 (by decide) ?_
      refine ab_aload_n hX dX12_plain_7 mm0 ?_
      refine ab_getfield hX dX12_plain_8 (fs_X12_47_13 rfl) (mg_o hA) rfl ?_
      refine ab_ishl hX dX12_plain_11 ?_
      refine ab_icmpge (tgt := 39) hX dX12_plain_12 (by decide) (fun h_1 => ?_) (fun h_1 => ?_)
      ·
        have hx_ := ctE (N := P) h_1 (by rw [hw, hP]; exact pw2 _ (by omega)) (by omega) (by omega)
        obtain rfl : P = i := by omega
        refine ab_iload_n hX dX12_plain_39 mm1 ?_
        exact ab_ireturn hX hF dX12_plain_40 rfl (by rfl) (congrArg some (congrArg Value.int (by subst hP; rfl))) (by rfl)
      ·
        have hlt_ := ctL (N := P) h_1 (by rw [hw, hP]; exact pw2 _ (by omega)) (by omega) (by omega)
        refine ab_iload_n hX dX12_plain_15 mm2 ?_
        refine ab_iload_n hX dX12_plain_16 mm1 ?_
        refine ab_callS2r hX dX12_plain_17 ss_X12_plain_173 (cm_X12_isBetter hG) (Nat.le_of_ble_eq_true rfl) ?_
        refine ab_ifeqB (tgt := 33) hX dX12_plain_20 (by decide) (fun h_2 => ?_) (fun h_2 => ?_)
        ·
          refine ab_iinc hX dX12_plain_33 mm2 rfl (by decide) rfl ?_
          refine ab_goto (tgt := 5) hX dX12_plain_36 (by decide) ?_
          exact ab_pm3 mm1 (mmv2 (congrArg Value.int (by first | exact (nI_1 _).symm | rfl | (rw [acc_s]; first | rfl | (simp only [plF, h_1, h_2, ↓reduceIte, Bool.false_eq_true]; done) | (simp only [plF, h_1, h_2, ↓reduceIte, Bool.false_eq_true]; rfl))))) (mmv0 (congrArg Value.int (by first | exact (nI_1 _).symm | rfl | (rw [acc_s]; first | rfl | (simp only [plF, h_1, h_2, ↓reduceIte, Bool.false_eq_true]; done) | (simp only [plF, h_1, h_2, ↓reduceIte, Bool.false_eq_true]; rfl))))) (ih5 (_) (by omega) (i + 1) (by omega) rfl)
        ·
          refine ab_aload_n hX dX12_plain_23 mm0 ?_
          refine ab_iload_n hX dX12_plain_24 mm2 ?_
          refine ab_callV1r hX dX12_plain_25 (mg_o hA) ss_X12_plain_184 (cm_X12_isPlain hG hA hI) (Nat.le_of_ble_eq_true rfl) ?_
          refine ab_ifeqB (tgt := 33) hX dX12_plain_28 (by decide) (fun h_3 => ?_) (fun h_3 => ?_)
          ·
            refine ab_iinc hX dX12_plain_33 mm2 rfl (by decide) rfl ?_
            refine ab_goto (tgt := 5) hX dX12_plain_36 (by decide) ?_
            exact ab_pm3 mm1 (mmv2 (congrArg Value.int (by first | exact (nI_1 _).symm | rfl | (rw [acc_s]; first | rfl | (simp only [plF, h_1, h_2, h_3, ↓reduceIte, Bool.false_eq_true]; done) | (simp only [plF, h_1, h_2, h_3, ↓reduceIte, Bool.false_eq_true]; rfl))))) (mmv0 (congrArg Value.int (by first | exact (nI_1 _).symm | rfl | (rw [acc_s]; first | rfl | (simp only [plF, h_1, h_2, h_3, ↓reduceIte, Bool.false_eq_true]; done) | (simp only [plF, h_1, h_2, h_3, ↓reduceIte, Bool.false_eq_true]; rfl))))) (ih5 (_) (by omega) (i + 1) (by omega) rfl)
          ·
            refine ab_iload_n hX dX12_plain_31 mm2 ?_
            refine ab_istore_n hX dX12_plain_32 rfl (by decide) rfl ?_
            refine ab_iinc hX dX12_plain_33 mm2 rfl (by decide) rfl ?_
            refine ab_goto (tgt := 5) hX dX12_plain_36 (by decide) ?_
            exact ab_pm3 mm2 (mmv1 (congrArg Value.int (by first | exact (nI_1 _).symm | rfl | (rw [acc_s]; first | rfl | (simp only [plF, h_1, h_2, h_3, ↓reduceIte, Bool.false_eq_true]; done) | (simp only [plF, h_1, h_2, h_3, ↓reduceIte, Bool.false_eq_true]; rfl))))) (mmv0 (congrArg Value.int (by first | exact (nI_1 _).symm | rfl | (rw [acc_s]; first | rfl | (simp only [plF, h_1, h_2, h_3, ↓reduceIte, Bool.false_eq_true]; done) | (simp only [plF, h_1, h_2, h_3, ↓reduceIte, Bool.false_eq_true]; rfl))))) (ih5 (_) (by omega) (i + 1) (by omega) rfl)
  exact ab_pm3 mm2 (mmv1 (congrArg Value.int (by rfl))) (mmv0 (congrArg Value.int (by rfl))) (L5 _ 0 (by omega) rfl)
theorem cm_X12_order {G : ab_G} (hG : ab_GG G) {A : List ab_E} {s : MS} {B : List ab_E} (hA : A.length = 42) {what : Int32} {nl nw ns : Nat} (hI : mI s nl nw ns)  : ab_CM G mX12_order [.ref 42, .int what] (mH A s B) (some (.int (orderM s nl nw ns what))) (mH A s B) := by
  refine ab_meth (l0 := [(0, .ref 42), (1, .int what)]) hG (by decide +kernel) rfl (Nat.le_of_ble_eq_true rfl) (Nat.le_refl _) (Nat.le_refl _) (fun X hX hF => ?_)
  obtain ⟨hl, hl6, hw, hw5, hs, hs10⟩ := id hI
  obtain ⟨P, hP⟩ : ∃ P, P = 2 ^ nw := ⟨_, rfl⟩
  have hp_ : P ≤ 1024 := hP ▸ pw2b (by omega)
  refine ab_iload_n hX dX12_order_0 mm1 ?_
  refine ab_iconst (v := 0) hX dX12_order_1 (by decide) ?_
  refine ab_iconst (v := 1) hX dX12_order_2 (by decide) ?_
  refine ab_callS3r hX dX12_order_3 ss_X12_order_43 (cm_X12_within hG) (Nat.le_of_ble_eq_true rfl) ?_
  refine ab_ifneB (tgt := 11) hX dX12_order_6 (by decide) (fun h_1 => ?_) (fun h_1 => ?_)
  ·
    refine ab_aload_n hX dX12_order_11 mm0 ?_
    refine ab_getfield hX dX12_order_12 (fs_X12_47_13 rfl) (mg_o hA) rfl ?_
    refine ab_ifne (tgt := 21) hX dX12_order_15 (by decide) (fun h_2 => ?_) (fun h_2 => ?_)
    ·
      refine ab_aload_n hX dX12_order_21 mm0 ?_
      refine ab_callV0r hX dX12_order_22 (mg_o hA) ss_X12_order_187 (cm_X12_plain hG hA hI) (Nat.le_of_ble_eq_true rfl) ?_
      refine ab_istore_n hX dX12_order_25 rfl (by decide) rfl ?_
      refine ab_iload_n hX dX12_order_26 mm0 ?_
      refine ab_bipush (v := (-4)) hX dX12_order_27 (by decide) ?_
      refine ab_icmpne (tgt := 35) hX dX12_order_29 (by decide) (fun h_3 => ?_) (fun h_3 => ?_)
      ·
        refine ab_iload_n hX dX12_order_35 mm2 ?_
        refine ab_ifne (tgt := 44) hX dX12_order_36 (by decide) (fun h_4 => ?_) (fun h_4 => ?_)
        ·
          refine ab_iconst (v := (-1)) hX dX12_order_44 (by decide) ?_
          refine ab_istore_n hX dX12_order_45 rfl (by decide) rfl ?_
          refine ab_iconst (v := 0) hX dX12_order_46 (by decide) ?_
          refine ab_istore hX dX12_order_47 (by decide) rfl ?_
          have L49 : ∀ (k49_ : Nat) (i : Nat) (hi_ : i ≤ P), k49_ = P - i → ab_WA G mX12_order X 49 [(0, .ref 42), (1, .int what), (2, .int (plainM s nl nw ns)), (3, .int (acc (ordF s nl nw ns (plainM s nl nw ns)) (-1) i)), (4, .int (nI i))] [] (mH A s B) := by
            intro k49_
            induction k49_ using Nat.strongRecOn with
            | _ k49_ ih49 =>
              intro i hi_ hk49_
              refine ab_iload hX dX12_order_49 mm4 ?_
              refine ab_iconst (v := 1) hX dX12_order_51 (by decide) ?_
              refine ab_aload_n hX dX12_order_52 mm0 ?_
              refine ab_getfield hX dX12_order_53 (fs_X12_47_13 rfl) (mg_o hA) rfl ?_
              refine ab_ishl hX dX12_order_56 ?_
              refine ab_icmpge (tgt := 182) hX dX12_order_57 (by decide) (fun h_5 => ?_) (fun h_5 => ?_)
              ·
                have hx_ := ctE (N := P) h_5 (by rw [hw, hP]; exact pw2 _ (by omega)) (by omega) (by omega)
                obtain rfl : P = i := by omega
                refine ab_iload_n hX dX12_order_182 mm3 ?_
                exact ab_ireturn hX hF dX12_order_183 rfl (by rfl) (congrArg some (congrArg Value.int (by subst hP; first | rfl | (simp only [orderM, h_1, h_2, h_3, h_4, h_5, ↓reduceIte, Bool.false_eq_true]; done) | (simp only [orderM, h_1, h_2, h_3, h_4, h_5, ↓reduceIte, Bool.false_eq_true]; rfl) | (unfold orderM; (repeat' split) <;> first | rfl | contradiction | (simp_all; done))))) (by rfl)
              ·
                have hlt_ := ctL (N := P) h_5 (by rw [hw, hP]; exact pw2 _ (by omega)) (by omega) (by omega)
                refine ab_iload hX dX12_order_60 mm4 ?_
                refine ab_callS1r hX dX12_order_62 ss_X12_order_171 (cm_J6_bitCount_0f7a4 hG) (Nat.le_of_ble_eq_true rfl) ?_
                refine ab_iload_n hX dX12_order_65 mm2 ?_
                refine ab_callS1r hX dX12_order_66 ss_X12_order_171 (cm_J6_bitCount_0f7a4 hG) (Nat.le_of_ble_eq_true rfl) ?_
                refine ab_icmpne (tgt := 176) hX dX12_order_69 (by decide) (fun h_6 => ?_) (fun h_6 => ?_)
                ·
                  refine ab_iinc hX dX12_order_176 mm4 rfl (by decide) rfl ?_
                  refine ab_goto (tgt := 49) hX dX12_order_179 (by decide) ?_
                  exact ab_pm5 mm1 (mmv2 (congrArg Value.int (by first | exact (nI_1 _).symm | rfl | (rw [acc_s]; first | rfl | (simp only [ordF, digM, h_1, h_2, h_3, h_4, h_5, h_6, ↓reduceIte, Bool.false_eq_true]; done) | (simp only [ordF, digM, h_1, h_2, h_3, h_4, h_5, h_6, ↓reduceIte, Bool.false_eq_true]; rfl))))) (mmv3 (congrArg Value.int (by first | exact (nI_1 _).symm | rfl | (rw [acc_s]; first | rfl | (simp only [ordF, digM, h_1, h_2, h_3, h_4, h_5, h_6, ↓reduceIte, Bool.false_eq_true]; done) | (simp only [ordF, digM, h_1, h_2, h_3, h_4, h_5, h_6, ↓reduceIte, Bool.false_eq_true]; rfl))))) (mmv4 (congrArg Value.int (by first | exact (nI_1 _).symm | rfl | (rw [acc_s]; first | rfl | (simp only [ordF, digM, h_1, h_2, h_3, h_4, h_5, h_6, ↓reduceIte, Bool.false_eq_true]; done) | (simp only [ordF, digM, h_1, h_2, h_3, h_4, h_5, h_6, ↓reduceIte, Bool.false_eq_true]; rfl))))) (mmv0 (congrArg Value.int (by first | exact (nI_1 _).symm | rfl | (rw [acc_s]; first | rfl | (simp only [ordF, digM, h_1, h_2, h_3, h_4, h_5, h_6, ↓reduceIte, Bool.false_eq_true]; done) | (simp only [ordF, digM, h_1, h_2, h_3, h_4, h_5, h_6, ↓reduceIte, Bool.false_eq_true]; rfl))))) (ih49 (_) (by omega) (i + 1) (by omega) rfl)
                ·
                  refine ab_aload_n hX dX12_order_72 mm0 ?_
                  refine ab_iload hX dX12_order_73 mm4 ?_
                  refine ab_callV1r hX dX12_order_75 (mg_o hA) ss_X12_order_184 (cm_X12_isPlain hG hA hI) (Nat.le_of_ble_eq_true rfl) ?_
                  refine ab_ifneB (tgt := 84) hX dX12_order_78 (by decide) (fun h_7 => ?_) (fun h_7 => ?_)
                  ·
                    refine ab_iconst (v := 0) hX dX12_order_84 (by decide) ?_
                    refine ab_istore hX dX12_order_85 (by decide) rfl ?_
                    refine ab_iconst (v := 0) hX dX12_order_87 (by decide) ?_
                    refine ab_istore hX dX12_order_88 (by decide) rfl ?_
                    have L90 : ∀ (k90_ : Nat) (j : Nat) (hj_ : j ≤ nw), k90_ = nw - j → ab_WA G mX12_order X 90 [(0, .ref 42), (1, .int what), (2, .int (plainM s nl nw ns)), (3, .int (acc (ordF s nl nw ns (plainM s nl nw ns)) (-1) i)), (4, .int (nI i)), (5, .int (acc (dgF (nI i)) 0 j)), (6, .int (nI j))] [] (mH A s B) := by
                      intro k90_
                      induction k90_ using Nat.strongRecOn with
                      | _ k90_ ih90 =>
                        intro j hj_ hk90_
                        refine ab_iload hX dX12_order_90 mm6 ?_
                        refine ab_aload_n hX dX12_order_92 mm0 ?_
                        refine ab_getfield hX dX12_order_93 (fs_X12_47_13 rfl) (mg_o hA) rfl ?_
                        refine ab_icmpge (tgt := 125) hX dX12_order_96 (by decide) (fun h_8 => ?_) (fun h_8 => ?_)
                        ·
                          have hx_ := ctE (N := nw) h_8 (by exact hw) (by omega) (by omega)
                          obtain rfl : nw = j := by omega
                          refine ab_iconst (v := 0) hX dX12_order_125 (by decide) ?_
                          refine ab_istore hX dX12_order_126 (by decide) rfl ?_
                          have L128 : ∀ (k128_ : Nat) (k : Nat) (hk_ : k ≤ nw), k128_ = nw - k → ab_WA G mX12_order X 128 [(0, .ref 42), (1, .int what), (2, .int (plainM s nl nw ns)), (3, .int (acc (ordF s nl nw ns (plainM s nl nw ns)) (-1) i)), (4, .int (nI i)), (5, .int (acc (dg2F (nI i)) (acc (dgF (nI i)) 0 nw) k)), (6, .int (nI k))] [] (mH A s B) := by
                            intro k128_
                            induction k128_ using Nat.strongRecOn with
                            | _ k128_ ih128 =>
                              intro k hk_ hk128_
                              refine ab_iload hX dX12_order_128 mm6 ?_
                              refine ab_aload_n hX dX12_order_130 mm0 ?_
                              refine ab_getfield hX dX12_order_131 (fs_X12_47_13 rfl) (mg_o hA) rfl ?_
                              refine ab_icmpge (tgt := 163) hX dX12_order_134 (by decide) (fun h_9 => ?_) (fun h_9 => ?_)
                              ·
                                have hx_ := ctE (N := nw) h_9 (by exact hw) (by omega) (by omega)
                                obtain rfl : nw = k := by omega
                                refine ab_iload_n hX dX12_order_163 mm3 ?_
                                refine ab_iflt (tgt := 173) hX dX12_order_164 (by decide) (fun h_10 => ?_) (fun h_10 => ?_)
                                ·
                                  refine ab_iload hX dX12_order_173 mm5 ?_
                                  refine ab_istore_n hX dX12_order_175 rfl (by decide) rfl ?_
                                  refine ab_iinc hX dX12_order_176 mm4 rfl (by decide) rfl ?_
                                  refine ab_goto (tgt := 49) hX dX12_order_179 (by decide) ?_
                                  exact ab_pm5 mm2 (mmv3 (congrArg Value.int (by first | exact (nI_1 _).symm | rfl | (rw [acc_s]; first | rfl | (simp only [ordF, digM, h_1, h_2, h_3, h_4, h_5, h_6, h_7, h_8, h_9, h_10, ↓reduceIte, Bool.false_eq_true]; done) | (simp only [ordF, digM, h_1, h_2, h_3, h_4, h_5, h_6, h_7, h_8, h_9, h_10, ↓reduceIte, Bool.false_eq_true]; rfl))))) (mmv4 (congrArg Value.int (by first | exact (nI_1 _).symm | rfl | (rw [acc_s]; first | rfl | (simp only [ordF, digM, h_1, h_2, h_3, h_4, h_5, h_6, h_7, h_8, h_9, h_10, ↓reduceIte, Bool.false_eq_true]; done) | (simp only [ordF, digM, h_1, h_2, h_3, h_4, h_5, h_6, h_7, h_8, h_9, h_10, ↓reduceIte, Bool.false_eq_true]; rfl))))) (mmv1 (congrArg Value.int (by first | exact (nI_1 _).symm | rfl | (rw [acc_s]; first | rfl | (simp only [ordF, digM, h_1, h_2, h_3, h_4, h_5, h_6, h_7, h_8, h_9, h_10, ↓reduceIte, Bool.false_eq_true]; done) | (simp only [ordF, digM, h_1, h_2, h_3, h_4, h_5, h_6, h_7, h_8, h_9, h_10, ↓reduceIte, Bool.false_eq_true]; rfl))))) (mmv0 (congrArg Value.int (by first | exact (nI_1 _).symm | rfl | (rw [acc_s]; first | rfl | (simp only [ordF, digM, h_1, h_2, h_3, h_4, h_5, h_6, h_7, h_8, h_9, h_10, ↓reduceIte, Bool.false_eq_true]; done) | (simp only [ordF, digM, h_1, h_2, h_3, h_4, h_5, h_6, h_7, h_8, h_9, h_10, ↓reduceIte, Bool.false_eq_true]; rfl))))) (ih49 (_) (by omega) (i + 1) (by omega) rfl)
                                ·
                                  refine ab_iload hX dX12_order_167 mm5 ?_
                                  refine ab_iload_n hX dX12_order_169 mm3 ?_
                                  refine ab_icmpge (tgt := 176) hX dX12_order_170 (by decide) (fun h_11 => ?_) (fun h_11 => ?_)
                                  ·
                                    refine ab_iinc hX dX12_order_176 mm4 rfl (by decide) rfl ?_
                                    refine ab_goto (tgt := 49) hX dX12_order_179 (by decide) ?_
                                    exact ab_pm5 mm1 (mmv2 (congrArg Value.int (by first | exact (nI_1 _).symm | rfl | (rw [acc_s]; first | rfl | (simp only [ordF, digM, h_1, h_2, h_3, h_4, h_5, h_6, h_7, h_8, h_9, h_10, h_11, ↓reduceIte, Bool.false_eq_true]; done) | (simp only [ordF, digM, h_1, h_2, h_3, h_4, h_5, h_6, h_7, h_8, h_9, h_10, h_11, ↓reduceIte, Bool.false_eq_true]; rfl))))) (mmv3 (congrArg Value.int (by first | exact (nI_1 _).symm | rfl | (rw [acc_s]; first | rfl | (simp only [ordF, digM, h_1, h_2, h_3, h_4, h_5, h_6, h_7, h_8, h_9, h_10, h_11, ↓reduceIte, Bool.false_eq_true]; done) | (simp only [ordF, digM, h_1, h_2, h_3, h_4, h_5, h_6, h_7, h_8, h_9, h_10, h_11, ↓reduceIte, Bool.false_eq_true]; rfl))))) (mmv4 (congrArg Value.int (by first | exact (nI_1 _).symm | rfl | (rw [acc_s]; first | rfl | (simp only [ordF, digM, h_1, h_2, h_3, h_4, h_5, h_6, h_7, h_8, h_9, h_10, h_11, ↓reduceIte, Bool.false_eq_true]; done) | (simp only [ordF, digM, h_1, h_2, h_3, h_4, h_5, h_6, h_7, h_8, h_9, h_10, h_11, ↓reduceIte, Bool.false_eq_true]; rfl))))) (mmv0 (congrArg Value.int (by first | exact (nI_1 _).symm | rfl | (rw [acc_s]; first | rfl | (simp only [ordF, digM, h_1, h_2, h_3, h_4, h_5, h_6, h_7, h_8, h_9, h_10, h_11, ↓reduceIte, Bool.false_eq_true]; done) | (simp only [ordF, digM, h_1, h_2, h_3, h_4, h_5, h_6, h_7, h_8, h_9, h_10, h_11, ↓reduceIte, Bool.false_eq_true]; rfl))))) (ih49 (_) (by omega) (i + 1) (by omega) rfl)
                                  ·
                                    refine ab_iload hX dX12_order_173 mm5 ?_
                                    refine ab_istore_n hX dX12_order_175 rfl (by decide) rfl ?_
                                    refine ab_iinc hX dX12_order_176 mm4 rfl (by decide) rfl ?_
                                    refine ab_goto (tgt := 49) hX dX12_order_179 (by decide) ?_
                                    exact ab_pm5 mm2 (mmv3 (congrArg Value.int (by first | exact (nI_1 _).symm | rfl | (rw [acc_s]; first | rfl | (simp only [ordF, digM, h_1, h_2, h_3, h_4, h_5, h_6, h_7, h_8, h_9, h_10, h_11, ↓reduceIte, Bool.false_eq_true]; done) | (simp only [ordF, digM, h_1, h_2, h_3, h_4, h_5, h_6, h_7, h_8, h_9, h_10, h_11, ↓reduceIte, Bool.false_eq_true]; rfl))))) (mmv4 (congrArg Value.int (by first | exact (nI_1 _).symm | rfl | (rw [acc_s]; first | rfl | (simp only [ordF, digM, h_1, h_2, h_3, h_4, h_5, h_6, h_7, h_8, h_9, h_10, h_11, ↓reduceIte, Bool.false_eq_true]; done) | (simp only [ordF, digM, h_1, h_2, h_3, h_4, h_5, h_6, h_7, h_8, h_9, h_10, h_11, ↓reduceIte, Bool.false_eq_true]; rfl))))) (mmv1 (congrArg Value.int (by first | exact (nI_1 _).symm | rfl | (rw [acc_s]; first | rfl | (simp only [ordF, digM, h_1, h_2, h_3, h_4, h_5, h_6, h_7, h_8, h_9, h_10, h_11, ↓reduceIte, Bool.false_eq_true]; done) | (simp only [ordF, digM, h_1, h_2, h_3, h_4, h_5, h_6, h_7, h_8, h_9, h_10, h_11, ↓reduceIte, Bool.false_eq_true]; rfl))))) (mmv0 (congrArg Value.int (by first | exact (nI_1 _).symm | rfl | (rw [acc_s]; first | rfl | (simp only [ordF, digM, h_1, h_2, h_3, h_4, h_5, h_6, h_7, h_8, h_9, h_10, h_11, ↓reduceIte, Bool.false_eq_true]; done) | (simp only [ordF, digM, h_1, h_2, h_3, h_4, h_5, h_6, h_7, h_8, h_9, h_10, h_11, ↓reduceIte, Bool.false_eq_true]; rfl))))) (ih49 (_) (by omega) (i + 1) (by omega) rfl)
                              ·
                                have hltk_ := ctL (N := nw) h_9 (by exact hw) (by omega) (by omega)
                                refine ab_iload hX dX12_order_137 mm4 ?_
                                refine ab_iload hX dX12_order_139 mm6 ?_
                                refine ab_callS2r hX dX12_order_141 ss_X12_order_54 (cm_X12_has hG) (Nat.le_of_ble_eq_true rfl) ?_
                                refine ab_ifneB (tgt := 157) hX dX12_order_144 (by decide) (fun h_12 => ?_) (fun h_12 => ?_)
                                ·
                                  refine ab_iinc hX dX12_order_157 mm6 rfl (by decide) rfl ?_
                                  refine ab_goto (tgt := 128) hX dX12_order_160 (by decide) ?_
                                  exact ab_pm7 mm1 (mmv2 (congrArg Value.int (by first | exact (nI_1 _).symm | rfl | (rw [acc_s]; first | rfl | (simp only [dg2F, h_1, h_2, h_3, h_4, h_5, h_6, h_7, h_8, h_9, h_12, ↓reduceIte, Bool.false_eq_true]; done) | (simp only [dg2F, h_1, h_2, h_3, h_4, h_5, h_6, h_7, h_8, h_9, h_12, ↓reduceIte, Bool.false_eq_true]; rfl))))) (mmv3 (congrArg Value.int (by first | exact (nI_1 _).symm | rfl | (rw [acc_s]; first | rfl | (simp only [dg2F, h_1, h_2, h_3, h_4, h_5, h_6, h_7, h_8, h_9, h_12, ↓reduceIte, Bool.false_eq_true]; done) | (simp only [dg2F, h_1, h_2, h_3, h_4, h_5, h_6, h_7, h_8, h_9, h_12, ↓reduceIte, Bool.false_eq_true]; rfl))))) (mmv4 (congrArg Value.int (by first | exact (nI_1 _).symm | rfl | (rw [acc_s]; first | rfl | (simp only [dg2F, h_1, h_2, h_3, h_4, h_5, h_6, h_7, h_8, h_9, h_12, ↓reduceIte, Bool.false_eq_true]; done) | (simp only [dg2F, h_1, h_2, h_3, h_4, h_5, h_6, h_7, h_8, h_9, h_12, ↓reduceIte, Bool.false_eq_true]; rfl))))) (mmv5 (congrArg Value.int (by first | exact (nI_1 _).symm | rfl | (rw [acc_s]; first | rfl | (simp only [dg2F, h_1, h_2, h_3, h_4, h_5, h_6, h_7, h_8, h_9, h_12, ↓reduceIte, Bool.false_eq_true]; done) | (simp only [dg2F, h_1, h_2, h_3, h_4, h_5, h_6, h_7, h_8, h_9, h_12, ↓reduceIte, Bool.false_eq_true]; rfl))))) (mmv6 (congrArg Value.int (by first | exact (nI_1 _).symm | rfl | (rw [acc_s]; first | rfl | (simp only [dg2F, h_1, h_2, h_3, h_4, h_5, h_6, h_7, h_8, h_9, h_12, ↓reduceIte, Bool.false_eq_true]; done) | (simp only [dg2F, h_1, h_2, h_3, h_4, h_5, h_6, h_7, h_8, h_9, h_12, ↓reduceIte, Bool.false_eq_true]; rfl))))) (mmv0 (congrArg Value.int (by first | exact (nI_1 _).symm | rfl | (rw [acc_s]; first | rfl | (simp only [dg2F, h_1, h_2, h_3, h_4, h_5, h_6, h_7, h_8, h_9, h_12, ↓reduceIte, Bool.false_eq_true]; done) | (simp only [dg2F, h_1, h_2, h_3, h_4, h_5, h_6, h_7, h_8, h_9, h_12, ↓reduceIte, Bool.false_eq_true]; rfl))))) (ih128 (_) (by omega) (k + 1) (by omega) rfl)
                                ·
                                  refine ab_bipush (v := 10) hX dX12_order_147 (by decide) ?_
                                  refine ab_iload hX dX12_order_149 mm5 ?_
                                  refine ab_imul hX dX12_order_151 ?_
                                  refine ab_iload hX dX12_order_152 mm6 ?_
                                  refine ab_iadd hX dX12_order_154 ?_
                                  refine ab_istore hX dX12_order_155 (by decide) rfl ?_
                                  refine ab_iinc hX dX12_order_157 mm6 rfl (by decide) rfl ?_
                                  refine ab_goto (tgt := 128) hX dX12_order_160 (by decide) ?_
                                  exact ab_pm7 mm2 (mmv3 (congrArg Value.int (by first | exact (nI_1 _).symm | rfl | (rw [acc_s]; first | rfl | (simp only [dg2F, h_1, h_2, h_3, h_4, h_5, h_6, h_7, h_8, h_9, h_12, ↓reduceIte, Bool.false_eq_true]; done) | (simp only [dg2F, h_1, h_2, h_3, h_4, h_5, h_6, h_7, h_8, h_9, h_12, ↓reduceIte, Bool.false_eq_true]; rfl))))) (mmv4 (congrArg Value.int (by first | exact (nI_1 _).symm | rfl | (rw [acc_s]; first | rfl | (simp only [dg2F, h_1, h_2, h_3, h_4, h_5, h_6, h_7, h_8, h_9, h_12, ↓reduceIte, Bool.false_eq_true]; done) | (simp only [dg2F, h_1, h_2, h_3, h_4, h_5, h_6, h_7, h_8, h_9, h_12, ↓reduceIte, Bool.false_eq_true]; rfl))))) (mmv5 (congrArg Value.int (by first | exact (nI_1 _).symm | rfl | (rw [acc_s]; first | rfl | (simp only [dg2F, h_1, h_2, h_3, h_4, h_5, h_6, h_7, h_8, h_9, h_12, ↓reduceIte, Bool.false_eq_true]; done) | (simp only [dg2F, h_1, h_2, h_3, h_4, h_5, h_6, h_7, h_8, h_9, h_12, ↓reduceIte, Bool.false_eq_true]; rfl))))) (mmv6 (congrArg Value.int (by first | exact (nI_1 _).symm | rfl | (rw [acc_s]; first | rfl | (simp only [dg2F, h_1, h_2, h_3, h_4, h_5, h_6, h_7, h_8, h_9, h_12, ↓reduceIte, Bool.false_eq_true]; done) | (simp only [dg2F, h_1, h_2, h_3, h_4, h_5, h_6, h_7, h_8, h_9, h_12, ↓reduceIte, Bool.false_eq_true]; rfl))))) (mmv1 (congrArg Value.int (by first | exact (nI_1 _).symm | rfl | (rw [acc_s]; first | rfl | (simp only [dg2F, h_1, h_2, h_3, h_4, h_5, h_6, h_7, h_8, h_9, h_12, ↓reduceIte, Bool.false_eq_true]; done) | (simp only [dg2F, h_1, h_2, h_3, h_4, h_5, h_6, h_7, h_8, h_9, h_12, ↓reduceIte, Bool.false_eq_true]; rfl))))) (mmv0 (congrArg Value.int (by first | exact (nI_1 _).symm | rfl | (rw [acc_s]; first | rfl | (simp only [dg2F, h_1, h_2, h_3, h_4, h_5, h_6, h_7, h_8, h_9, h_12, ↓reduceIte, Bool.false_eq_true]; done) | (simp only [dg2F, h_1, h_2, h_3, h_4, h_5, h_6, h_7, h_8, h_9, h_12, ↓reduceIte, Bool.false_eq_true]; rfl))))) (ih128 (_) (by omega) (k + 1) (by omega) rfl)
                          exact ab_pm7 mm1 (mmv2 (congrArg Value.int (by rfl))) (mmv3 (congrArg Value.int (by rfl))) (mmv4 (congrArg Value.int (by rfl))) (mmv5 (congrArg Value.int (by rfl))) (mmv6 (congrArg Value.int (by rfl))) (mmv0 (congrArg Value.int (by rfl))) (L128 _ 0 (by omega) rfl)
                        ·
                          have hltj_ := ctL (N := nw) h_8 (by exact hw) (by omega) (by omega)
                          refine ab_iload hX dX12_order_99 mm4 ?_
                          refine ab_iload hX dX12_order_101 mm6 ?_
                          refine ab_callS2r hX dX12_order_103 ss_X12_order_54 (cm_X12_has hG) (Nat.le_of_ble_eq_true rfl) ?_
                          refine ab_ifeqB (tgt := 119) hX dX12_order_106 (by decide) (fun h_13 => ?_) (fun h_13 => ?_)
                          ·
                            refine ab_iinc hX dX12_order_119 mm6 rfl (by decide) rfl ?_
                            refine ab_goto (tgt := 90) hX dX12_order_122 (by decide) ?_
                            exact ab_pm7 mm1 (mmv2 (congrArg Value.int (by first | exact (nI_1 _).symm | rfl | (rw [acc_s]; first | rfl | (simp only [dgF, h_1, h_2, h_3, h_4, h_5, h_6, h_7, h_8, h_13, ↓reduceIte, Bool.false_eq_true]; done) | (simp only [dgF, h_1, h_2, h_3, h_4, h_5, h_6, h_7, h_8, h_13, ↓reduceIte, Bool.false_eq_true]; rfl))))) (mmv3 (congrArg Value.int (by first | exact (nI_1 _).symm | rfl | (rw [acc_s]; first | rfl | (simp only [dgF, h_1, h_2, h_3, h_4, h_5, h_6, h_7, h_8, h_13, ↓reduceIte, Bool.false_eq_true]; done) | (simp only [dgF, h_1, h_2, h_3, h_4, h_5, h_6, h_7, h_8, h_13, ↓reduceIte, Bool.false_eq_true]; rfl))))) (mmv4 (congrArg Value.int (by first | exact (nI_1 _).symm | rfl | (rw [acc_s]; first | rfl | (simp only [dgF, h_1, h_2, h_3, h_4, h_5, h_6, h_7, h_8, h_13, ↓reduceIte, Bool.false_eq_true]; done) | (simp only [dgF, h_1, h_2, h_3, h_4, h_5, h_6, h_7, h_8, h_13, ↓reduceIte, Bool.false_eq_true]; rfl))))) (mmv5 (congrArg Value.int (by first | exact (nI_1 _).symm | rfl | (rw [acc_s]; first | rfl | (simp only [dgF, h_1, h_2, h_3, h_4, h_5, h_6, h_7, h_8, h_13, ↓reduceIte, Bool.false_eq_true]; done) | (simp only [dgF, h_1, h_2, h_3, h_4, h_5, h_6, h_7, h_8, h_13, ↓reduceIte, Bool.false_eq_true]; rfl))))) (mmv6 (congrArg Value.int (by first | exact (nI_1 _).symm | rfl | (rw [acc_s]; first | rfl | (simp only [dgF, h_1, h_2, h_3, h_4, h_5, h_6, h_7, h_8, h_13, ↓reduceIte, Bool.false_eq_true]; done) | (simp only [dgF, h_1, h_2, h_3, h_4, h_5, h_6, h_7, h_8, h_13, ↓reduceIte, Bool.false_eq_true]; rfl))))) (mmv0 (congrArg Value.int (by first | exact (nI_1 _).symm | rfl | (rw [acc_s]; first | rfl | (simp only [dgF, h_1, h_2, h_3, h_4, h_5, h_6, h_7, h_8, h_13, ↓reduceIte, Bool.false_eq_true]; done) | (simp only [dgF, h_1, h_2, h_3, h_4, h_5, h_6, h_7, h_8, h_13, ↓reduceIte, Bool.false_eq_true]; rfl))))) (ih90 (_) (by omega) (j + 1) (by omega) rfl)
                          ·
                            refine ab_bipush (v := 10) hX dX12_order_109 (by decide) ?_
                            refine ab_iload hX dX12_order_111 mm5 ?_
                            refine ab_imul hX dX12_order_113 ?_
                            refine ab_iload hX dX12_order_114 mm6 ?_
                            refine ab_iadd hX dX12_order_116 ?_
                            refine ab_istore hX dX12_order_117 (by decide) rfl ?_
                            refine ab_iinc hX dX12_order_119 mm6 rfl (by decide) rfl ?_
                            refine ab_goto (tgt := 90) hX dX12_order_122 (by decide) ?_
                            exact ab_pm7 mm2 (mmv3 (congrArg Value.int (by first | exact (nI_1 _).symm | rfl | (rw [acc_s]; first | rfl | (simp only [dgF, h_1, h_2, h_3, h_4, h_5, h_6, h_7, h_8, h_13, ↓reduceIte, Bool.false_eq_true]; done) | (simp only [dgF, h_1, h_2, h_3, h_4, h_5, h_6, h_7, h_8, h_13, ↓reduceIte, Bool.false_eq_true]; rfl))))) (mmv4 (congrArg Value.int (by first | exact (nI_1 _).symm | rfl | (rw [acc_s]; first | rfl | (simp only [dgF, h_1, h_2, h_3, h_4, h_5, h_6, h_7, h_8, h_13, ↓reduceIte, Bool.false_eq_true]; done) | (simp only [dgF, h_1, h_2, h_3, h_4, h_5, h_6, h_7, h_8, h_13, ↓reduceIte, Bool.false_eq_true]; rfl))))) (mmv5 (congrArg Value.int (by first | exact (nI_1 _).symm | rfl | (rw [acc_s]; first | rfl | (simp only [dgF, h_1, h_2, h_3, h_4, h_5, h_6, h_7, h_8, h_13, ↓reduceIte, Bool.false_eq_true]; done) | (simp only [dgF, h_1, h_2, h_3, h_4, h_5, h_6, h_7, h_8, h_13, ↓reduceIte, Bool.false_eq_true]; rfl))))) (mmv6 (congrArg Value.int (by first | exact (nI_1 _).symm | rfl | (rw [acc_s]; first | rfl | (simp only [dgF, h_1, h_2, h_3, h_4, h_5, h_6, h_7, h_8, h_13, ↓reduceIte, Bool.false_eq_true]; done) | (simp only [dgF, h_1, h_2, h_3, h_4, h_5, h_6, h_7, h_8, h_13, ↓reduceIte, Bool.false_eq_true]; rfl))))) (mmv1 (congrArg Value.int (by first | exact (nI_1 _).symm | rfl | (rw [acc_s]; first | rfl | (simp only [dgF, h_1, h_2, h_3, h_4, h_5, h_6, h_7, h_8, h_13, ↓reduceIte, Bool.false_eq_true]; done) | (simp only [dgF, h_1, h_2, h_3, h_4, h_5, h_6, h_7, h_8, h_13, ↓reduceIte, Bool.false_eq_true]; rfl))))) (mmv0 (congrArg Value.int (by first | exact (nI_1 _).symm | rfl | (rw [acc_s]; first | rfl | (simp only [dgF, h_1, h_2, h_3, h_4, h_5, h_6, h_7, h_8, h_13, ↓reduceIte, Bool.false_eq_true]; done) | (simp only [dgF, h_1, h_2, h_3, h_4, h_5, h_6, h_7, h_8, h_13, ↓reduceIte, Bool.false_eq_true]; rfl))))) (ih90 (_) (by omega) (j + 1) (by omega) rfl)
                    exact ab_pm7 mm2 (mmv3 (congrArg Value.int (by rfl))) (mmv4 (congrArg Value.int (by rfl))) (mmv5 (congrArg Value.int (by rfl))) (mmv6 (congrArg Value.int (by rfl))) (mmv1 (congrArg Value.int (by rfl))) (mmv0 (congrArg Value.int (by rfl))) (L90 _ 0 (by omega) rfl)
                  ·
                    refine ab_goto (tgt := 176) hX dX12_order_81 (by decide) ?_
                    refine ab_iinc hX dX12_order_176 mm4 rfl (by decide) rfl ?_
                    refine ab_goto (tgt := 49) hX dX12_order_179 (by decide) ?_
                    exact ab_pm5 mm1 (mmv2 (congrArg Value.int (by first | exact (nI_1 _).symm | rfl | (rw [acc_s]; first | rfl | (simp only [ordF, digM, h_1, h_2, h_3, h_4, h_5, h_6, h_7, ↓reduceIte, Bool.false_eq_true]; done) | (simp only [ordF, digM, h_1, h_2, h_3, h_4, h_5, h_6, h_7, ↓reduceIte, Bool.false_eq_true]; rfl))))) (mmv3 (congrArg Value.int (by first | exact (nI_1 _).symm | rfl | (rw [acc_s]; first | rfl | (simp only [ordF, digM, h_1, h_2, h_3, h_4, h_5, h_6, h_7, ↓reduceIte, Bool.false_eq_true]; done) | (simp only [ordF, digM, h_1, h_2, h_3, h_4, h_5, h_6, h_7, ↓reduceIte, Bool.false_eq_true]; rfl))))) (mmv4 (congrArg Value.int (by first | exact (nI_1 _).symm | rfl | (rw [acc_s]; first | rfl | (simp only [ordF, digM, h_1, h_2, h_3, h_4, h_5, h_6, h_7, ↓reduceIte, Bool.false_eq_true]; done) | (simp only [ordF, digM, h_1, h_2, h_3, h_4, h_5, h_6, h_7, ↓reduceIte, Bool.false_eq_true]; rfl))))) (mmv0 (congrArg Value.int (by first | exact (nI_1 _).symm | rfl | (rw [acc_s]; first | rfl | (simp only [ordF, digM, h_1, h_2, h_3, h_4, h_5, h_6, h_7, ↓reduceIte, Bool.false_eq_true]; done) | (simp only [ordF, digM, h_1, h_2, h_3, h_4, h_5, h_6, h_7, ↓reduceIte, Bool.false_eq_true]; rfl))))) (ih49 (_) (by omega) (i + 1) (by omega) rfl)
          exact ab_pm5 mm3 (mmv4 (congrArg Value.int (by rfl))) (mmv2 (congrArg Value.int (by rfl))) (mmv1 (congrArg Value.int (by rfl))) (mmv0 (congrArg Value.int (by rfl))) (L49 _ 0 (by omega) rfl)
        ·
          refine ab_iload_n hX dX12_order_39 mm0 ?_
          refine ab_callS1r hX dX12_order_40 ss_X12_order_171 (cm_J6_bitCount_0f7a4 hG) (Nat.le_of_ble_eq_true rfl) ?_
          exact ab_ireturn hX hF dX12_order_43 rfl (by rfl) (congrArg some (congrArg Value.int (by subst hP; first | rfl | (simp only [orderM, h_1, h_2, h_3, h_4, ↓reduceIte, Bool.false_eq_true]; done) | (simp only [orderM, h_1, h_2, h_3, h_4, ↓reduceIte, Bool.false_eq_true]; rfl) | (unfold orderM; (repeat' split) <;> first | rfl | contradiction | (simp_all; done))))) (by rfl)
      ·
        refine ab_bipush (v := (-4)) hX dX12_order_32 (by decide) ?_
        exact ab_ireturn hX hF dX12_order_34 rfl (by rfl) (congrArg some (congrArg Value.int (by subst hP; first | rfl | (simp only [orderM, h_1, h_2, h_3, ↓reduceIte, Bool.false_eq_true]; done) | (simp only [orderM, h_1, h_2, h_3, ↓reduceIte, Bool.false_eq_true]; rfl) | (unfold orderM; (repeat' split) <;> first | rfl | contradiction | (simp_all; done))))) (by rfl)
    ·
      refine ab_bipush (v := (-3)) hX dX12_order_18 (by decide) ?_
      exact ab_ireturn hX hF dX12_order_20 rfl (by rfl) (congrArg some (congrArg Value.int (by subst hP; first | rfl | (simp only [orderM, h_1, h_2, ↓reduceIte, Bool.false_eq_true]; done) | (simp only [orderM, h_1, h_2, ↓reduceIte, Bool.false_eq_true]; rfl) | (unfold orderM; (repeat' split) <;> first | rfl | contradiction | (simp_all; done))))) (by rfl)
  ·
    refine ab_iconst (v := (-1)) hX dX12_order_9 (by decide) ?_
    exact ab_ireturn hX hF dX12_order_10 rfl (by rfl) (congrArg some (congrArg Value.int (by subst hP; first | rfl | (simp only [orderM, h_1, ↓reduceIte, Bool.false_eq_true]; done) | (simp only [orderM, h_1, ↓reduceIte, Bool.false_eq_true]; rfl) | (unfold orderM; (repeat' split) <;> first | rfl | contradiction | (simp_all; done))))) (by rfl)
theorem cm_X12_without {G : ab_G} (hG : ab_GG G) {A : List ab_E} {s : MS} {B : List ab_E} (hA : A.length = 42) {w : Int32} {nl nw ns : Nat} (hI : mI s nl nw ns)  : ab_CM G mX12_without [.ref 42, .int w] (mH A s B) (some (.int (withoutM s nl ns w))) (mH A s B) := by
  refine ab_meth (l0 := [(0, .ref 42), (1, .int w)]) hG (by decide +kernel) rfl (Nat.le_of_ble_eq_true rfl) (Nat.le_refl _) (Nat.le_refl _) (fun X hX hF => ?_)
  obtain ⟨hl, hl6, hw, hw5, hs, hs10⟩ := id hI
  refine ab_aload_n hX dX12_without_0 mm0 ?_
  refine ab_iload_n hX dX12_without_1 mm1 ?_
  refine ab_callV1r hX dX12_without_2 (mg_o hA) ss_X12_without_104 (cm_X12_isWitness hG hA) (Nat.le_of_ble_eq_true rfl) ?_
  refine ab_ifneB (tgt := 10) hX dX12_without_5 (by decide) (fun h_1 => ?_) (fun h_1 => ?_)
  ·
    refine ab_aload_n hX dX12_without_10 mm0 ?_
    refine ab_aload_n hX dX12_without_11 mm0 ?_
    refine ab_iconst (v := 1) hX dX12_without_12 (by decide) ?_
    refine ab_aload_n hX dX12_without_13 mm0 ?_
    refine ab_getfield hX dX12_without_14 (fs_X12_47_13 rfl) (mg_o hA) rfl ?_
    refine ab_ishl hX dX12_without_17 ?_
    refine ab_iconst (v := 1) hX dX12_without_18 (by decide) ?_
    refine ab_isub hX dX12_without_19 ?_
    refine ab_iconst (v := 1) hX dX12_without_20 (by decide) ?_
    refine ab_iload_n hX dX12_without_21 mm1 ?_
    refine ab_ishl hX dX12_without_22 ?_
    refine ab_iconst (v := (-1)) hX dX12_without_23 (by decide) ?_
    refine ab_ixor hX dX12_without_24 ?_
    refine ab_iand hX dX12_without_25 ?_
    refine ab_callV1r hX dX12_without_26 (mg_o hA) ss_X12_without_181 (cm_X12_saidBy hG hA hI) (Nat.le_of_ble_eq_true rfl) ?_
    refine ab_callV1r hX dX12_without_29 (mg_o hA) ss_X12_without_148 (cm_X12_leftBy hG hA hI) (Nat.le_of_ble_eq_true rfl) ?_
    refine ab_callS1r hX dX12_without_32 ss_X12_without_156 (cm_J13_bitCount_95d88 hG) (Nat.le_of_ble_eq_true rfl) ?_
    refine ab_aload_n hX dX12_without_35 mm0 ?_
    refine ab_callV0r hX dX12_without_36 (mg_o hA) ss_X12_without_153 (cm_X12_left hG hA hI) (Nat.le_of_ble_eq_true rfl) ?_
    refine ab_callS1r hX dX12_without_39 ss_X12_without_156 (cm_J13_bitCount_95d88 hG) (Nat.le_of_ble_eq_true rfl) ?_
    refine ab_isub hX dX12_without_42 ?_
    exact ab_ireturn hX hF dX12_without_43 rfl (by rfl) (congrArg some (congrArg Value.int (by first | rfl | (simp only [withoutM, h_1, ↓reduceIte, Bool.false_eq_true]; done) | (simp only [withoutM, h_1, ↓reduceIte, Bool.false_eq_true]; rfl) | (unfold withoutM; (repeat' split) <;> first | rfl | contradiction | (simp_all; done))))) (by rfl)
  ·
    refine ab_iconst (v := (-1)) hX dX12_without_8 (by decide) ?_
    exact ab_ireturn hX hF dX12_without_9 rfl (by rfl) (congrArg some (congrArg Value.int (by first | rfl | (simp only [withoutM, h_1, ↓reduceIte, Bool.false_eq_true]; done) | (simp only [withoutM, h_1, ↓reduceIte, Bool.false_eq_true]; rfl) | (unfold withoutM; (repeat' split) <;> first | rfl | contradiction | (simp_all; done))))) (by rfl)
theorem cm_X12_isLie {G : ab_G} (hG : ab_GG G) {A : List ab_E} {s : MS} {B : List ab_E} (hA : A.length = 42) {k : Int32} {w : Int32} {j : Nat} (hj : w = nI j) (hj2 : j < 5) : ab_CM G mX12_isLie [.ref 42, .int k, .int w] (mH A s B) (some (.int (bi (lieB s k j)))) (mH A s B) := by
  refine ab_meth (l0 := [(0, .ref 42), (1, .int k), (2, .int w)]) hG (by decide +kernel) rfl (Nat.le_of_ble_eq_true rfl) (Nat.le_refl _) (Nat.le_refl _) (fun X hX hF => ?_)
  refine ab_iload_n hX dX12_isLie_0 mm1 ?_
  refine ab_callS1r hX dX12_isLie_1 ss_X12_isLie_68 (cm_X12_aboutOf hG) (Nat.le_of_ble_eq_true rfl) ?_
  refine ab_aload_n hX dX12_isLie_4 mm0 ?_
  refine ab_getfield hX dX12_isLie_5 (fs_X12_13_13 rfl) (mg_o hA) rfl ?_
  refine ab_iload_n hX dX12_isLie_8 mm2 ?_
  refine ab_iald (i := j) hX dX12_isLie_9 (mg_4 hA) hj hj2 (by decide) ?_
  refine ab_iconst (v := (-1)) hX dX12_isLie_10 (by decide) ?_
  refine ab_ixor hX dX12_isLie_11 ?_
  refine ab_iand hX dX12_isLie_12 ?_
  refine ab_ifne (tgt := 31) hX dX12_isLie_13 (by decide) (fun h_1 => ?_) (fun h_1 => ?_)
  ·
    refine ab_iconst (v := 0) hX dX12_isLie_31 (by decide) ?_
    exact ab_ireturn hX hF dX12_isLie_32 rfl (by first | rfl | exact bi_n _) (congrArg some (congrArg Value.int (by simp only [lieB, h_1, decide_true, decide_false, Bool.true_and, Bool.false_and, Bool.and_true, Bool.and_false, Bool.not_true, Bool.not_false, Bool.or_true, Bool.true_or, Bool.false_or, Bool.or_false, bi_t, bi_f]))) (by rfl)
  ·
    refine ab_iload_n hX dX12_isLie_16 mm1 ?_
    refine ab_aload_n hX dX12_isLie_17 mm0 ?_
    refine ab_getfield hX dX12_isLie_18 (fs_X12_61_13 rfl) (mg_o hA) rfl ?_
    refine ab_callS2r hX dX12_isLie_21 ss_X12_isLie_58 (cm_X12_isTrueIn hG) (Nat.le_of_ble_eq_true rfl) ?_
    refine ab_ifneB (tgt := 31) hX dX12_isLie_24 (by decide) (fun h_2 => ?_) (fun h_2 => ?_)
    ·
      refine ab_iconst (v := 0) hX dX12_isLie_31 (by decide) ?_
      exact ab_ireturn hX hF dX12_isLie_32 rfl (by first | rfl | exact bi_n _) (congrArg some (congrArg Value.int (by simp only [lieB, h_1, h_2, decide_true, decide_false, Bool.true_and, Bool.false_and, Bool.and_true, Bool.and_false, Bool.not_true, Bool.not_false, Bool.or_true, Bool.true_or, Bool.false_or, Bool.or_false, bi_t, bi_f]))) (by rfl)
    ·
      refine ab_iconst (v := 1) hX dX12_isLie_27 (by decide) ?_
      refine ab_goto (tgt := 32) hX dX12_isLie_28 (by decide) ?_
      exact ab_ireturn hX hF dX12_isLie_32 rfl (by first | rfl | exact bi_n _) (congrArg some (congrArg Value.int (by simp only [lieB, h_1, h_2, decide_true, decide_false, Bool.true_and, Bool.false_and, Bool.and_true, Bool.and_false, Bool.not_true, Bool.not_false, Bool.or_true, Bool.true_or, Bool.false_or, Bool.or_false, bi_t, bi_f]))) (by rfl)
theorem cm_X12_plainSaying {G : ab_G} (hG : ab_GG G) {h : List ab_E} {i : Int32}  : ab_CM G mX12_plainSaying [.int i] h (some (.int (psI i))) h := by
  refine ab_meth (l0 := [(0, .int i)]) hG (by decide +kernel) rfl (Nat.le_of_ble_eq_true rfl) (Nat.le_refl _) (Nat.le_refl _) (fun X hX hF => ?_)
  refine ab_iload_n hX dX12_plainSaying_0 mm0 ?_
  refine ab_bipush (v := 36) hX dX12_plainSaying_1 (by decide) ?_
  refine ab_idiv hX dX12_plainSaying_3 (by decide) ?_
  refine ab_iconst (v := 0) hX dX12_plainSaying_4 (by decide) ?_
  refine ab_iload_n hX dX12_plainSaying_5 mm0 ?_
  refine ab_bipush (v := 6) hX dX12_plainSaying_6 (by decide) ?_
  refine ab_idiv hX dX12_plainSaying_8 (by decide) ?_
  refine ab_bipush (v := 6) hX dX12_plainSaying_9 (by decide) ?_
  refine ab_irem hX dX12_plainSaying_11 (by decide) ?_
  refine ab_iload_n hX dX12_plainSaying_12 mm0 ?_
  refine ab_bipush (v := 6) hX dX12_plainSaying_13 (by decide) ?_
  refine ab_irem hX dX12_plainSaying_15 (by decide) ?_
  refine ab_callS4r hX dX12_plainSaying_16 ss_X12_plainSaying_81 (cm_X12_made hG) (Nat.le_of_ble_eq_true rfl) ?_
  exact ab_ireturn hX hF dX12_plainSaying_19 rfl (by rfl) (congrArg some (congrArg Value.int (by rfl))) (by rfl)
