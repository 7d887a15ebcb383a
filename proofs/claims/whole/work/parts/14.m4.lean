theorem neL {x : Int32} {n N : Nat} (hx : x = nI n) (h : n ≤ N) (hne : ¬ x = nI N) : n < N := by
  rcases Nat.lt_or_ge n N with q | q
  · exact q
  · exact absurd (by rw [hx, Nat.le_antisymm h q]) hne
/-- one, by the number there: what its parts are -/
def twoI (s : MS) : Int32 := 10 * s.2.1 14 0 + s.2.1 14 1
def svB (s : MS) (k : Nat) : Bool := !decide (8 ≤ s.2.1 14 k) && (iw (s.2.1 14 (k + 2)) 0 5 && iw (s.2.1 14 (k + 3)) 0 5)
def rsI (s : MS) (k : Nat) : Int32 := made (s.2.1 14 k) (s.2.1 14 (k + 1)) (s.2.1 14 (k + 2)) (s.2.1 14 (k + 3))
def rulesM (s : MS) (d a b : Int32) : Int32 := if iw d 0 7 = true then (if iw a 0 5 = true then (if iw b 0 5 = true then (if 0 ≤ noS s (tn d) then (if s.1 1 = 6 then -2 else s.1 1) else noS s (tn d)) else -1) else -1) else -1
def rulesS (s : MS) (nl : Nat) (d a b : Int32) : MS := if iw d 0 7 = true then (if iw a 0 5 = true then (if iw b 0 5 = true then (if 0 ≤ noS s (tn d) then (if s.1 1 = 6 then s else mu1 (mu2 s 2 nl (onS s (tn d) a b)) 1 (s.1 1 + 1)) else s) else s) else s) else s
def saysM (s : MS) (w d a b : Int32) : Int32 := if iw w 0 (s.1 3 - 1) = true then (if iw d 0 7 = true then (if iw a 0 5 = true then (if iw b 0 5 = true then (if 0 ≤ noS s (tn d) then (if s.1 5 = 10 then -2 else s.1 5) else noS s (tn d)) else -1) else -1) else -1) else -1
def saysS (s : MS) (ns : Nat) (w d a b : Int32) : MS := if iw w 0 (s.1 3 - 1) = true then (if iw d 0 7 = true then (if iw a 0 5 = true then (if iw b 0 5 = true then (if 0 ≤ noS s (tn d) then (if s.1 5 = 10 then s else mu1 (mu2 (mu2 s 7 ns w) 6 ns (onS s (tn d) a b)) 5 (s.1 5 + 1)) else s) else s) else s) else s) else s
def unsaysM (s : MS) : Int32 := if s.1 5 = 0 then -3 else s.1 5 - 1
def unsaysS (s : MS) : MS := if s.1 5 = 0 then s else mu1 s 5 (s.1 5 - 1)
def witM (s : MS) (k : Int32) : Int32 := if iw k 0 63 = true then (if s.1 3 = 5 then -2 else s.1 3) else -1
def witS (s : MS) (nw : Nat) (k : Int32) : MS := if iw k 0 63 = true then (if s.1 3 = 5 then s else mu1 (mu2 s 4 nw k) 3 (s.1 3 + 1)) else s
def truM (s : MS) (w : Int32) : Int32 := if iw w 0 63 = true then s.1 0 else -1
def truS (s : MS) (w : Int32) : MS := if iw w 0 63 = true then mu1 s 0 w else s
/-- what is kept aside, and back -/
def kp1 (k : Nat) (i : Nat) (s : MS) : MS := mu2 s k i (s.2.1 2 i)
def kp2 (k : Nat) (i : Nat) (s : MS) : MS := mu2 s k (6 + i) (s.2.1 4 i)
def kp3 (k : Nat) (i : Nat) (s : MS) : MS := mu2 (mu2 s k (11 + i) (s.2.1 6 i)) k (21 + i) (s.2.1 7 i)
def kp4 (k : Nat) (s : MS) : MS := mu2 (mu2 (mu2 (mu2 s k 31 (s.1 1)) k 32 (s.1 3)) k 33 (s.1 5)) k 34 (s.1 0)
def kpS (k : Nat) (s : MS) : MS := kp4 k (acc (kp3 k) (acc (kp2 k) (acc (kp1 k) s 6) 5) 10)
def ag1 (k : Nat) (i : Nat) (s : MS) : MS := mu2 s 2 i (s.2.1 k i)
def ag2 (k : Nat) (i : Nat) (s : MS) : MS := mu2 s 4 i (s.2.1 k (6 + i))
def ag3 (k : Nat) (i : Nat) (s : MS) : MS := mu2 (mu2 s 6 i (s.2.1 k (11 + i))) 7 i (s.2.1 k (21 + i))
def ag4 (k : Nat) (s : MS) : MS := mu1 (mu1 (mu1 (mu1 s 1 (s.2.1 k 31)) 3 (s.2.1 k 32)) 5 (s.2.1 k 33)) 0 (s.2.1 k 34)
def agS (k : Nat) (s : MS) : MS := ag4 k (acc (ag3 k) (acc (ag2 k) (acc (ag1 k) s 6) 5) 10)
def imS (s : MS) : MS := kpS 16 (mu1 s 15 1)
def reM (s : MS) : Int32 := if s.1 15 = 0 then -3 else (agS 16 s).1 5
def reS (s : MS) : MS := if s.1 15 = 0 then s else agS 16 s
def keM (d what k f : Int32) : Int32 := if iw d 0 7 = true then (if iw what 0 1 = true then (if what = 1 then (if iw k 0 7 = true then (if iw f 0 9 = true then 0 else -1) else -1) else 0) else -1) else -1
def keS (s : MS) (d what k f : Int32) : MS := if iw d 0 7 = true then (if iw what 0 1 = true then (if what = 1 then (if iw k 0 7 = true then (if iw f 0 9 = true then mu2 (mu2 (mu2 s 8 (tn d) what) 9 (tn d) k) 10 (tn d) f else s) else s) else mu2 (mu2 (mu2 s 8 (tn d) what) 9 (tn d) 0) 10 (tn d) 0) else s) else s
def roM (d sort n : Int32) : Int32 := if iw d 0 7 = true then (if iw sort 0 2 = true then (if n ≤ 100 then (if 0 ≤ n then 0 else -14) else -1) else -1) else -1
def roF (j : Nat) (i : Nat) (s : MS) : MS := mu2 s 11 (100 * j + i) 0
def roS (s : MS) (d sort n : Int32) : MS := if iw d 0 7 = true then (if iw sort 0 2 = true then (if n ≤ 100 then (if 0 ≤ n then acc (roF (tn d)) (mu2 (mu2 (mu2 s 8 (tn d) 2) 9 (tn d) sort) 10 (tn d) n) 100 else s) else s) else s) else s
def puM (s : MS) (d i : Int32) : Int32 := if iw d 0 7 = true then (if 0 ≤ noR s (tn d) then (if iw i 0 (s.2.1 10 (tn d) - 1) = true then 0 else -13) else noR s (tn d)) else -1
def puS (s : MS) (d i v : Int32) : MS := if iw d 0 7 = true then (if 0 ≤ noR s (tn d) then (if iw i 0 (s.2.1 10 (tn d) - 1) = true then mu2 s 11 (100 * tn d + tn i) (if s.2.1 9 (tn d) = 0 then v.toInt8.toInt32 else if s.2.1 9 (tn d) = 1 then v.toInt16.toInt32 else v) else s) else s) else s
def elT (s : MS) (d i : Int32) : Int32 := if iw d 0 7 = true then (if s.2.1 8 (tn d) = 2 then (if iw i 0 (s.2.1 10 (tn d) - 1) = true then 0 else 2) else 2) else 1
def elM (s : MS) (d i : Int32) : Int64 := if iw d 0 7 = true then (if s.2.1 8 (tn d) = 2 then (if iw i 0 (s.2.1 10 (tn d) - 1) = true then (s.2.1 11 (100 * tn d + tn i)).toInt64 else 0) else 0) else 0
theorem iw100 {x m : Int32} {n : Nat} (hm : m = nI n) (hn : n ≤ 100) (h : iw x 0 (m - 1) = true) : ∃ j, j < n ∧ x = nI j := iw_ex (n := n) (by rw [hm]) (by omega) h
theorem shI_row {s : MS} {j : Nat} (hSh : shI s) (hj : j < 8) (h : s.2.1 8 j = 2) : ∃ n, n ≤ 100 ∧ s.2.1 10 j = nI n := (hSh j hj).2 h
theorem cm_X12_two {G : ab_G} (hG : ab_GG G) {A : List ab_E} {s : MS} {B : List ab_E} (hA : A.length = 42)   : ab_CM G mX12_two [.ref 42] (mH A s B) (some (.int (twoI s))) (mH A s B) := by
  refine ab_meth (l0 := [(0, .ref 42)]) hG (by decide +kernel) rfl (Nat.le_of_ble_eq_true rfl) (Nat.le_refl _) (Nat.le_refl _) (fun X hX hF => ?_)
  refine ab_bipush (v := 10) hX dX12_two_0 (by decide) ?_
  refine ab_aload_n hX dX12_two_2 mm0 ?_
  refine ab_getfield hX dX12_two_3 (fs_X12_34_13 rfl) (mg_o hA) rfl ?_
  refine ab_iconst (v := 0) hX dX12_two_6 (by decide) ?_
  refine ab_iald (i := 0) hX dX12_two_7 (mg_14 hA) rfl (by decide) (by decide) ?_
  refine ab_imul hX dX12_two_8 ?_
  refine ab_aload_n hX dX12_two_9 mm0 ?_
  refine ab_getfield hX dX12_two_10 (fs_X12_34_13 rfl) (mg_o hA) rfl ?_
  refine ab_iconst (v := 1) hX dX12_two_13 (by decide) ?_
  refine ab_iald (i := 1) hX dX12_two_14 (mg_14 hA) rfl (by decide) (by decide) ?_
  refine ab_iadd hX dX12_two_15 ?_
  exact ab_ireturn hX hF dX12_two_16 rfl (by rfl) (congrArg some (congrArg Value.int (by rfl))) (by rfl)
theorem cm_X12_isSaying {G : ab_G} (hG : ab_GG G) {A : List ab_E} {s : MS} {B : List ab_E} (hA : A.length = 42) {i : Int32} {k : Nat} (hj : i = nI k) (hj2 : k ≤ 1) : ab_CM G mX12_isSaying [.ref 42, .int i] (mH A s B) (some (.int (bi (svB s k)))) (mH A s B) := by
  refine ab_meth (l0 := [(0, .ref 42), (1, .int i)]) hG (by decide +kernel) rfl (Nat.le_of_ble_eq_true rfl) (Nat.le_refl _) (Nat.le_refl _) (fun X hX hF => ?_)
  refine ab_aload_n hX dX12_isSaying_0 mm0 ?_
  refine ab_getfield hX dX12_isSaying_1 (fs_X12_34_13 rfl) (mg_o hA) rfl ?_
  refine ab_iload_n hX dX12_isSaying_4 mm1 ?_
  refine ab_iald (i := k) hX dX12_isSaying_5 (mg_14 hA) hj (by omega) (by decide) ?_
  refine ab_bipush (v := 8) hX dX12_isSaying_6 (by decide) ?_
  refine ab_icmpge (tgt := 43) hX dX12_isSaying_8 (by decide) (fun h_1 => ?_) (fun h_1 => ?_)
  ·
    refine ab_iconst (v := 0) hX dX12_isSaying_43 (by decide) ?_
    exact ab_ireturn hX hF dX12_isSaying_44 rfl (by first | rfl | exact bi_n _) (congrArg some (congrArg Value.int (by simp only [svB, h_1, decide_true, decide_false, Bool.true_and, Bool.false_and, Bool.and_true, Bool.and_false, Bool.not_true, Bool.not_false, Bool.or_true, Bool.true_or, Bool.false_or, Bool.or_false, bi_t, bi_f]))) (by rfl)
  ·
    refine ab_aload_n hX dX12_isSaying_11 mm0 ?_
    refine ab_getfield hX dX12_isSaying_12 (fs_X12_34_13 rfl) (mg_o hA) rfl ?_
    refine ab_iload_n hX dX12_isSaying_15 mm1 ?_
    refine ab_iconst (v := 2) hX dX12_isSaying_16 (by decide) ?_
    refine ab_iadd hX dX12_isSaying_17 ?_
    refine ab_iald (i := (k + 2)) hX dX12_isSaying_18 (mg_14 hA) (by rw [hj]; exact nI_add k 2) (by omega) (by decide) ?_
    refine ab_callS1r hX dX12_isSaying_19 ss_X12_isSaying_77 (cm_X12_isFact hG) (Nat.le_of_ble_eq_true rfl) ?_
    refine ab_ifeqB (tgt := 43) hX dX12_isSaying_22 (by decide) (fun h_2 => ?_) (fun h_2 => ?_)
    ·
      refine ab_iconst (v := 0) hX dX12_isSaying_43 (by decide) ?_
      exact ab_ireturn hX hF dX12_isSaying_44 rfl (by first | rfl | exact bi_n _) (congrArg some (congrArg Value.int (by simp only [svB, h_1, h_2, decide_true, decide_false, Bool.true_and, Bool.false_and, Bool.and_true, Bool.and_false, Bool.not_true, Bool.not_false, Bool.or_true, Bool.true_or, Bool.false_or, Bool.or_false, bi_t, bi_f]))) (by rfl)
    ·
      refine ab_aload_n hX dX12_isSaying_25 mm0 ?_
      refine ab_getfield hX dX12_isSaying_26 (fs_X12_34_13 rfl) (mg_o hA) rfl ?_
      refine ab_iload_n hX dX12_isSaying_29 mm1 ?_
      refine ab_iconst (v := 3) hX dX12_isSaying_30 (by decide) ?_
      refine ab_iadd hX dX12_isSaying_31 ?_
      refine ab_iald (i := (k + 3)) hX dX12_isSaying_32 (mg_14 hA) (by rw [hj]; exact nI_add k 3) (by omega) (by decide) ?_
      refine ab_callS1r hX dX12_isSaying_33 ss_X12_isSaying_77 (cm_X12_isFact hG) (Nat.le_of_ble_eq_true rfl) ?_
      refine ab_ifeqB (tgt := 43) hX dX12_isSaying_36 (by decide) (fun h_3 => ?_) (fun h_3 => ?_)
      ·
        refine ab_iconst (v := 0) hX dX12_isSaying_43 (by decide) ?_
        exact ab_ireturn hX hF dX12_isSaying_44 rfl (by first | rfl | exact bi_n _) (congrArg some (congrArg Value.int (by simp only [svB, h_1, h_2, h_3, decide_true, decide_false, Bool.true_and, Bool.false_and, Bool.and_true, Bool.and_false, Bool.not_true, Bool.not_false, Bool.or_true, Bool.true_or, Bool.false_or, Bool.or_false, bi_t, bi_f]))) (by rfl)
      ·
        refine ab_iconst (v := 1) hX dX12_isSaying_39 (by decide) ?_
        refine ab_goto (tgt := 44) hX dX12_isSaying_40 (by decide) ?_
        exact ab_ireturn hX hF dX12_isSaying_44 rfl (by first | rfl | exact bi_n _) (congrArg some (congrArg Value.int (by simp only [svB, h_1, h_2, h_3, decide_true, decide_false, Bool.true_and, Bool.false_and, Bool.and_true, Bool.and_false, Bool.not_true, Bool.not_false, Bool.or_true, Bool.true_or, Bool.false_or, Bool.or_false, bi_t, bi_f]))) (by rfl)
theorem cm_X12_readSaying {G : ab_G} (hG : ab_GG G) {A : List ab_E} {s : MS} {B : List ab_E} (hA : A.length = 42) {i : Int32} {k : Nat} (hj : i = nI k) (hj2 : k ≤ 1) : ab_CM G mX12_readSaying [.ref 42, .int i] (mH A s B) (some (.int (rsI s k))) (mH A s B) := by
  refine ab_meth (l0 := [(0, .ref 42), (1, .int i)]) hG (by decide +kernel) rfl (Nat.le_of_ble_eq_true rfl) (Nat.le_refl _) (Nat.le_refl _) (fun X hX hF => ?_)
  refine ab_aload_n hX dX12_readSaying_0 mm0 ?_
  refine ab_getfield hX dX12_readSaying_1 (fs_X12_34_13 rfl) (mg_o hA) rfl ?_
  refine ab_iload_n hX dX12_readSaying_4 mm1 ?_
  refine ab_iald (i := k) hX dX12_readSaying_5 (mg_14 hA) hj (by omega) (by decide) ?_
  refine ab_aload_n hX dX12_readSaying_6 mm0 ?_
  refine ab_getfield hX dX12_readSaying_7 (fs_X12_34_13 rfl) (mg_o hA) rfl ?_
  refine ab_iload_n hX dX12_readSaying_10 mm1 ?_
  refine ab_iconst (v := 1) hX dX12_readSaying_11 (by decide) ?_
  refine ab_iadd hX dX12_readSaying_12 ?_
  refine ab_iald (i := (k + 1)) hX dX12_readSaying_13 (mg_14 hA) (by rw [hj]; exact nI_add k 1) (by omega) (by decide) ?_
  refine ab_aload_n hX dX12_readSaying_14 mm0 ?_
  refine ab_getfield hX dX12_readSaying_15 (fs_X12_34_13 rfl) (mg_o hA) rfl ?_
  refine ab_iload_n hX dX12_readSaying_18 mm1 ?_
  refine ab_iconst (v := 2) hX dX12_readSaying_19 (by decide) ?_
  refine ab_iadd hX dX12_readSaying_20 ?_
  refine ab_iald (i := (k + 2)) hX dX12_readSaying_21 (mg_14 hA) (by rw [hj]; exact nI_add k 2) (by omega) (by decide) ?_
  refine ab_aload_n hX dX12_readSaying_22 mm0 ?_
  refine ab_getfield hX dX12_readSaying_23 (fs_X12_34_13 rfl) (mg_o hA) rfl ?_
  refine ab_iload_n hX dX12_readSaying_26 mm1 ?_
  refine ab_iconst (v := 3) hX dX12_readSaying_27 (by decide) ?_
  refine ab_iadd hX dX12_readSaying_28 ?_
  refine ab_iald (i := (k + 3)) hX dX12_readSaying_29 (mg_14 hA) (by rw [hj]; exact nI_add k 3) (by omega) (by decide) ?_
  refine ab_callS4r hX dX12_readSaying_30 ss_X12_readSaying_81 (cm_X12_made hG) (Nat.le_of_ble_eq_true rfl) ?_
  exact ab_ireturn hX hF dX12_readSaying_33 rfl (by rfl) (congrArg some (congrArg Value.int (by first | rfl | (simp only [rsI, ↓reduceIte, Bool.false_eq_true]; done) | (simp only [rsI, ↓reduceIte, Bool.false_eq_true]; rfl) | (unfold rsI; (repeat' split) <;> first | rfl | contradiction | (simp_all; done))))) (by rfl)
theorem cm_X12_rules {G : ab_G} (hG : ab_GG G) {A : List ab_E} {s : MS} {B : List ab_E} (hA : A.length = 42) {d : Int32} {a : Int32} {b : Int32} {nl nw ns : Nat} (hI : mI s nl nw ns)  : ab_CM G mX12_rules [.ref 42, .int d, .int a, .int b] (mH A s B) (some (.int (rulesM s d a b))) (mH A (rulesS s nl d a b) B) := by
  refine ab_meth (l0 := [(0, .ref 42), (1, .int d), (2, .int a), (3, .int b)]) hG (by decide +kernel) rfl (Nat.le_of_ble_eq_true rfl) mH_lenE mH_szE (fun X hX hF => ?_)
  obtain ⟨hl, hl6, hw, hw5, hs, hs10⟩ := id hI
  refine ab_iload_n hX dX12_rules_0 mm1 ?_
  refine ab_callS1r hX dX12_rules_1 ss_X12_rules_107 (cm_X12_isShelf hG) (Nat.le_of_ble_eq_true rfl) ?_
  refine ab_ifeqB (tgt := 21) hX dX12_rules_4 (by decide) (fun h_1 => ?_) (fun h_1 => ?_)
  ·
    refine ab_iconst (v := (-1)) hX dX12_rules_21 (by decide) ?_
    exact ab_ireturn hX hF dX12_rules_22 rfl (by rfl) (congrArg some (congrArg Value.int (by first | rfl | (simp only [rulesM, rulesS, h_1, ↓reduceIte, Bool.false_eq_true]; done) | (simp only [rulesM, rulesS, h_1, ↓reduceIte, Bool.false_eq_true]; rfl) | (unfold rulesM; (repeat' split) <;> first | rfl | contradiction | (simp_all; done))))) (by first | rfl | (simp only [rulesM, rulesS, h_1, ↓reduceIte, Bool.false_eq_true]; done) | (simp only [rulesM, rulesS, h_1, ↓reduceIte, Bool.false_eq_true]; rfl))
  ·
    obtain ⟨j, hj, rfl⟩ := iw8 h_1
    have hjc := tn_nI (j := j) (by omega)
    refine ab_iload_n hX dX12_rules_7 mm2 ?_
    refine ab_callS1r hX dX12_rules_8 ss_X12_rules_77 (cm_X12_isFact hG) (Nat.le_of_ble_eq_true rfl) ?_
    refine ab_ifeqB (tgt := 21) hX dX12_rules_11 (by decide) (fun h_2 => ?_) (fun h_2 => ?_)
    ·
      refine ab_iconst (v := (-1)) hX dX12_rules_21 (by decide) ?_
      exact ab_ireturn hX hF dX12_rules_22 rfl (by rfl) (congrArg some (congrArg Value.int (by first | rfl | (simp only [rulesM, rulesS, h_1, hjc, h_2, ↓reduceIte, Bool.false_eq_true]; done) | (simp only [rulesM, rulesS, h_1, hjc, h_2, ↓reduceIte, Bool.false_eq_true]; rfl) | (unfold rulesM; (repeat' split) <;> first | rfl | contradiction | (simp_all; done))))) (by first | rfl | (simp only [rulesM, rulesS, h_1, hjc, h_2, ↓reduceIte, Bool.false_eq_true]; done) | (simp only [rulesM, rulesS, h_1, hjc, h_2, ↓reduceIte, Bool.false_eq_true]; rfl))
    ·
      refine ab_iload_n hX dX12_rules_14 mm3 ?_
      refine ab_callS1r hX dX12_rules_15 ss_X12_rules_77 (cm_X12_isFact hG) (Nat.le_of_ble_eq_true rfl) ?_
      refine ab_ifneB (tgt := 23) hX dX12_rules_18 (by decide) (fun h_3 => ?_) (fun h_3 => ?_)
      ·
        refine ab_aload_n hX dX12_rules_23 mm0 ?_
        refine ab_iload_n hX dX12_rules_24 mm1 ?_
        refine ab_callV1r hX dX12_rules_25 (mg_o hA) ss_X12_rules_131 (cm_X12_noSaying hG hA rfl hj) (Nat.le_of_ble_eq_true rfl) ?_
        refine ab_istore hX dX12_rules_28 (by decide) rfl ?_
        refine ab_iload hX dX12_rules_30 mm0 ?_
        refine ab_ifge (tgt := 38) hX dX12_rules_32 (by decide) (fun h_4 => ?_) (fun h_4 => ?_)
        ·
          refine ab_aload_n hX dX12_rules_38 mm1 ?_
          refine ab_getfield hX dX12_rules_39 (fs_X12_94_13 rfl) (mg_o hA) rfl ?_
          refine ab_bipush (v := 6) hX dX12_rules_42 (by decide) ?_
          refine ab_icmpne (tgt := 50) hX dX12_rules_44 (by decide) (fun h_5 => ?_) (fun h_5 => ?_)
          ·
            have hn6 := neL hl hl6 h_5
            refine ab_aload_n hX dX12_rules_50 mm1 ?_
            refine ab_getfield hX dX12_rules_51 (fs_X12_7_13 rfl) (mg_o hA) rfl ?_
            refine ab_aload_n hX dX12_rules_54 mm1 ?_
            refine ab_getfield hX dX12_rules_55 (fs_X12_94_13 rfl) (mg_o hA) rfl ?_
            refine ab_aload_n hX dX12_rules_58 mm1 ?_
            refine ab_iload_n hX dX12_rules_59 mm2 ?_
            refine ab_iload_n hX dX12_rules_60 mm3 ?_
            refine ab_iload_n hX dX12_rules_61 mm4 ?_
            refine ab_callV3r hX dX12_rules_62 (mg_o hA) ss_X12_rules_134 (cm_X12_onShelf hG hA rfl hj) (Nat.le_of_ble_eq_true rfl) ?_
            refine ab_iast (i := nl) hX dX12_rules_65 (mg_2 hA) hl (by omega) (by decide) (mx_2 hA) ?_
            refine ab_aload_n hX dX12_rules_66 mm1 ?_
            refine ab_dup hX dX12_rules_67 rfl ?_
            refine ab_getfield hX dX12_rules_68 (fs_X12_94_13 rfl) (mg_o hA) rfl ?_
            refine ab_dup_x1 hX dX12_rules_71 rfl rfl ?_
            refine ab_iconst (v := 1) hX dX12_rules_72 (by decide) ?_
            refine ab_iadd hX dX12_rules_73 ?_
            refine ab_putfield hX dX12_rules_74 ps_X12_rules_94_13 (mg_o hA) (Nat.le_of_ble_eq_true rfl) rfl rfl (mx_1 hA) ?_
            exact ab_ireturn hX hF dX12_rules_77 rfl (by rfl) (congrArg some (congrArg Value.int (by first | rfl | (simp only [rulesM, rulesS, h_1, hjc, h_2, h_3, h_4, h_5, ↓reduceIte, Bool.false_eq_true]; done) | (simp only [rulesM, rulesS, h_1, hjc, h_2, h_3, h_4, h_5, ↓reduceIte, Bool.false_eq_true]; rfl) | (unfold rulesM; (repeat' split) <;> first | rfl | contradiction | (simp_all; done))))) (by first | rfl | (simp only [rulesM, rulesS, h_1, hjc, h_2, h_3, h_4, h_5, ↓reduceIte, Bool.false_eq_true]; done) | (simp only [rulesM, rulesS, h_1, hjc, h_2, h_3, h_4, h_5, ↓reduceIte, Bool.false_eq_true]; rfl))
          ·
            refine ab_bipush (v := (-2)) hX dX12_rules_47 (by decide) ?_
            exact ab_ireturn hX hF dX12_rules_49 rfl (by rfl) (congrArg some (congrArg Value.int (by first | rfl | (simp only [rulesM, rulesS, h_1, hjc, h_2, h_3, h_4, h_5, ↓reduceIte, Bool.false_eq_true]; done) | (simp only [rulesM, rulesS, h_1, hjc, h_2, h_3, h_4, h_5, ↓reduceIte, Bool.false_eq_true]; rfl) | (unfold rulesM; (repeat' split) <;> first | rfl | contradiction | (simp_all; done))))) (by first | rfl | (simp only [rulesM, rulesS, h_1, hjc, h_2, h_3, h_4, h_5, ↓reduceIte, Bool.false_eq_true]; done) | (simp only [rulesM, rulesS, h_1, hjc, h_2, h_3, h_4, h_5, ↓reduceIte, Bool.false_eq_true]; rfl))
        ·
          refine ab_iload hX dX12_rules_35 mm0 ?_
          exact ab_ireturn hX hF dX12_rules_37 rfl (by rfl) (congrArg some (congrArg Value.int (by first | rfl | (simp only [rulesM, rulesS, h_1, hjc, h_2, h_3, h_4, ↓reduceIte, Bool.false_eq_true]; done) | (simp only [rulesM, rulesS, h_1, hjc, h_2, h_3, h_4, ↓reduceIte, Bool.false_eq_true]; rfl) | (unfold rulesM; (repeat' split) <;> first | rfl | contradiction | (simp_all; done))))) (by first | rfl | (simp only [rulesM, rulesS, h_1, hjc, h_2, h_3, h_4, ↓reduceIte, Bool.false_eq_true]; done) | (simp only [rulesM, rulesS, h_1, hjc, h_2, h_3, h_4, ↓reduceIte, Bool.false_eq_true]; rfl))
      ·
        refine ab_iconst (v := (-1)) hX dX12_rules_21 (by decide) ?_
        exact ab_ireturn hX hF dX12_rules_22 rfl (by rfl) (congrArg some (congrArg Value.int (by first | rfl | (simp only [rulesM, rulesS, h_1, hjc, h_2, h_3, ↓reduceIte, Bool.false_eq_true]; done) | (simp only [rulesM, rulesS, h_1, hjc, h_2, h_3, ↓reduceIte, Bool.false_eq_true]; rfl) | (unfold rulesM; (repeat' split) <;> first | rfl | contradiction | (simp_all; done))))) (by first | rfl | (simp only [rulesM, rulesS, h_1, hjc, h_2, h_3, ↓reduceIte, Bool.false_eq_true]; done) | (simp only [rulesM, rulesS, h_1, hjc, h_2, h_3, ↓reduceIte, Bool.false_eq_true]; rfl))
theorem cm_X12_says {G : ab_G} (hG : ab_GG G) {A : List ab_E} {s : MS} {B : List ab_E} (hA : A.length = 42) {w : Int32} {d : Int32} {a : Int32} {b : Int32} {nl nw ns : Nat} (hI : mI s nl nw ns)  : ab_CM G mX12_says [.ref 42, .int w, .int d, .int a, .int b] (mH A s B) (some (.int (saysM s w d a b))) (mH A (saysS s ns w d a b) B) := by
  refine ab_meth (l0 := [(0, .ref 42), (1, .int w), (2, .int d), (3, .int a), (4, .int b)]) hG (by decide +kernel) rfl (Nat.le_of_ble_eq_true rfl) mH_lenE mH_szE (fun X hX hF => ?_)
  obtain ⟨hl, hl6, hw, hw5, hs, hs10⟩ := id hI
  refine ab_aload_n hX dX12_says_0 mm0 ?_
  refine ab_iload_n hX dX12_says_1 mm1 ?_
  refine ab_callV1r hX dX12_says_2 (mg_o hA) ss_X12_says_104 (cm_X12_isWitness hG hA) (Nat.le_of_ble_eq_true rfl) ?_
  refine ab_ifeqB (tgt := 30) hX dX12_says_5 (by decide) (fun h_1 => ?_) (fun h_1 => ?_)
  ·
    refine ab_iconst (v := (-1)) hX dX12_says_30 (by decide) ?_
    exact ab_ireturn hX hF dX12_says_31 rfl (by rfl) (congrArg some (congrArg Value.int (by first | rfl | (simp only [saysM, saysS, h_1, ↓reduceIte, Bool.false_eq_true]; done) | (simp only [saysM, saysS, h_1, ↓reduceIte, Bool.false_eq_true]; rfl) | (unfold saysM; (repeat' split) <;> first | rfl | contradiction | (simp_all; done))))) (by first | rfl | (simp only [saysM, saysS, h_1, ↓reduceIte, Bool.false_eq_true]; done) | (simp only [saysM, saysS, h_1, ↓reduceIte, Bool.false_eq_true]; rfl))
  ·
    refine ab_iload_n hX dX12_says_8 mm2 ?_
    refine ab_callS1r hX dX12_says_9 ss_X12_says_107 (cm_X12_isShelf hG) (Nat.le_of_ble_eq_true rfl) ?_
    refine ab_ifeqB (tgt := 30) hX dX12_says_12 (by decide) (fun h_2 => ?_) (fun h_2 => ?_)
    ·
      refine ab_iconst (v := (-1)) hX dX12_says_30 (by decide) ?_
      exact ab_ireturn hX hF dX12_says_31 rfl (by rfl) (congrArg some (congrArg Value.int (by first | rfl | (simp only [saysM, saysS, h_1, h_2, ↓reduceIte, Bool.false_eq_true]; done) | (simp only [saysM, saysS, h_1, h_2, ↓reduceIte, Bool.false_eq_true]; rfl) | (unfold saysM; (repeat' split) <;> first | rfl | contradiction | (simp_all; done))))) (by first | rfl | (simp only [saysM, saysS, h_1, h_2, ↓reduceIte, Bool.false_eq_true]; done) | (simp only [saysM, saysS, h_1, h_2, ↓reduceIte, Bool.false_eq_true]; rfl))
    ·
      obtain ⟨j, hj, rfl⟩ := iw8 h_2
      have hjc := tn_nI (j := j) (by omega)
      refine ab_iload_n hX dX12_says_15 mm3 ?_
      refine ab_callS1r hX dX12_says_16 ss_X12_says_77 (cm_X12_isFact hG) (Nat.le_of_ble_eq_true rfl) ?_
      refine ab_ifeqB (tgt := 30) hX dX12_says_19 (by decide) (fun h_3 => ?_) (fun h_3 => ?_)
      ·
        refine ab_iconst (v := (-1)) hX dX12_says_30 (by decide) ?_
        exact ab_ireturn hX hF dX12_says_31 rfl (by rfl) (congrArg some (congrArg Value.int (by first | rfl | (simp only [saysM, saysS, h_1, h_2, hjc, h_3, ↓reduceIte, Bool.false_eq_true]; done) | (simp only [saysM, saysS, h_1, h_2, hjc, h_3, ↓reduceIte, Bool.false_eq_true]; rfl) | (unfold saysM; (repeat' split) <;> first | rfl | contradiction | (simp_all; done))))) (by first | rfl | (simp only [saysM, saysS, h_1, h_2, hjc, h_3, ↓reduceIte, Bool.false_eq_true]; done) | (simp only [saysM, saysS, h_1, h_2, hjc, h_3, ↓reduceIte, Bool.false_eq_true]; rfl))
      ·
        refine ab_iload hX dX12_says_22 mm4 ?_
        refine ab_callS1r hX dX12_says_24 ss_X12_says_77 (cm_X12_isFact hG) (Nat.le_of_ble_eq_true rfl) ?_
        refine ab_ifneB (tgt := 32) hX dX12_says_27 (by decide) (fun h_4 => ?_) (fun h_4 => ?_)
        ·
          refine ab_aload_n hX dX12_says_32 mm0 ?_
          refine ab_iload_n hX dX12_says_33 mm2 ?_
          refine ab_callV1r hX dX12_says_34 (mg_o hA) ss_X12_says_131 (cm_X12_noSaying hG hA rfl hj) (Nat.le_of_ble_eq_true rfl) ?_
          refine ab_istore hX dX12_says_37 (by decide) rfl ?_
          refine ab_iload hX dX12_says_39 mm0 ?_
          refine ab_ifge (tgt := 47) hX dX12_says_41 (by decide) (fun h_5 => ?_) (fun h_5 => ?_)
          ·
            refine ab_aload_n hX dX12_says_47 mm1 ?_
            refine ab_getfield hX dX12_says_48 (fs_X12_51_13 rfl) (mg_o hA) rfl ?_
            refine ab_bipush (v := 10) hX dX12_says_51 (by decide) ?_
            refine ab_icmpne (tgt := 59) hX dX12_says_53 (by decide) (fun h_6 => ?_) (fun h_6 => ?_)
            ·
              have hn6 := neL hs hs10 h_6
              refine ab_aload_n hX dX12_says_59 mm1 ?_
              refine ab_getfield hX dX12_says_60 (fs_X12_19_13 rfl) (mg_o hA) rfl ?_
              refine ab_aload_n hX dX12_says_63 mm1 ?_
              refine ab_getfield hX dX12_says_64 (fs_X12_51_13 rfl) (mg_o hA) rfl ?_
              refine ab_iload_n hX dX12_says_67 mm2 ?_
              refine ab_iast (i := ns) hX dX12_says_68 (mg_7 hA) hs (by omega) (by decide) (mx_7 hA) ?_
              refine ab_aload_n hX dX12_says_69 mm1 ?_
              refine ab_getfield hX dX12_says_70 (fs_X12_16_13 rfl) (mg_o hA) rfl ?_
              refine ab_aload_n hX dX12_says_73 mm1 ?_
              refine ab_getfield hX dX12_says_74 (fs_X12_51_13 rfl) (mg_o hA) rfl ?_
              refine ab_aload_n hX dX12_says_77 mm1 ?_
              refine ab_iload_n hX dX12_says_78 mm3 ?_
              refine ab_iload_n hX dX12_says_79 mm4 ?_
              refine ab_iload hX dX12_says_80 mm5 ?_
              refine ab_callV3r hX dX12_says_82 (mg_o hA) ss_X12_says_134 (cm_X12_onShelf hG hA rfl hj) (Nat.le_of_ble_eq_true rfl) ?_
              refine ab_iast (i := ns) hX dX12_says_85 (mg_6 hA) hs (by omega) (by decide) (mx_6 hA) ?_
              refine ab_aload_n hX dX12_says_86 mm1 ?_
              refine ab_dup hX dX12_says_87 rfl ?_
              refine ab_getfield hX dX12_says_88 (fs_X12_51_13 rfl) (mg_o hA) rfl ?_
              refine ab_dup_x1 hX dX12_says_91 rfl rfl ?_
              refine ab_iconst (v := 1) hX dX12_says_92 (by decide) ?_
              refine ab_iadd hX dX12_says_93 ?_
              refine ab_putfield hX dX12_says_94 ps_X12_says_51_13 (mg_o hA) (Nat.le_of_ble_eq_true rfl) rfl rfl (mx_5 hA) ?_
              exact ab_ireturn hX hF dX12_says_97 rfl (by rfl) (congrArg some (congrArg Value.int (by first | rfl | (simp only [saysM, saysS, h_1, h_2, hjc, h_3, h_4, h_5, h_6, ↓reduceIte, Bool.false_eq_true]; done) | (simp only [saysM, saysS, h_1, h_2, hjc, h_3, h_4, h_5, h_6, ↓reduceIte, Bool.false_eq_true]; rfl) | (unfold saysM; (repeat' split) <;> first | rfl | contradiction | (simp_all; done))))) (by first | rfl | (simp only [saysM, saysS, h_1, h_2, hjc, h_3, h_4, h_5, h_6, ↓reduceIte, Bool.false_eq_true]; done) | (simp only [saysM, saysS, h_1, h_2, hjc, h_3, h_4, h_5, h_6, ↓reduceIte, Bool.false_eq_true]; rfl))
            ·
              refine ab_bipush (v := (-2)) hX dX12_says_56 (by decide) ?_
              exact ab_ireturn hX hF dX12_says_58 rfl (by rfl) (congrArg some (congrArg Value.int (by first | rfl | (simp only [saysM, saysS, h_1, h_2, hjc, h_3, h_4, h_5, h_6, ↓reduceIte, Bool.false_eq_true]; done) | (simp only [saysM, saysS, h_1, h_2, hjc, h_3, h_4, h_5, h_6, ↓reduceIte, Bool.false_eq_true]; rfl) | (unfold saysM; (repeat' split) <;> first | rfl | contradiction | (simp_all; done))))) (by first | rfl | (simp only [saysM, saysS, h_1, h_2, hjc, h_3, h_4, h_5, h_6, ↓reduceIte, Bool.false_eq_true]; done) | (simp only [saysM, saysS, h_1, h_2, hjc, h_3, h_4, h_5, h_6, ↓reduceIte, Bool.false_eq_true]; rfl))
          ·
            refine ab_iload hX dX12_says_44 mm0 ?_
            exact ab_ireturn hX hF dX12_says_46 rfl (by rfl) (congrArg some (congrArg Value.int (by first | rfl | (simp only [saysM, saysS, h_1, h_2, hjc, h_3, h_4, h_5, ↓reduceIte, Bool.false_eq_true]; done) | (simp only [saysM, saysS, h_1, h_2, hjc, h_3, h_4, h_5, ↓reduceIte, Bool.false_eq_true]; rfl) | (unfold saysM; (repeat' split) <;> first | rfl | contradiction | (simp_all; done))))) (by first | rfl | (simp only [saysM, saysS, h_1, h_2, hjc, h_3, h_4, h_5, ↓reduceIte, Bool.false_eq_true]; done) | (simp only [saysM, saysS, h_1, h_2, hjc, h_3, h_4, h_5, ↓reduceIte, Bool.false_eq_true]; rfl))
        ·
          refine ab_iconst (v := (-1)) hX dX12_says_30 (by decide) ?_
          exact ab_ireturn hX hF dX12_says_31 rfl (by rfl) (congrArg some (congrArg Value.int (by first | rfl | (simp only [saysM, saysS, h_1, h_2, hjc, h_3, h_4, ↓reduceIte, Bool.false_eq_true]; done) | (simp only [saysM, saysS, h_1, h_2, hjc, h_3, h_4, ↓reduceIte, Bool.false_eq_true]; rfl) | (unfold saysM; (repeat' split) <;> first | rfl | contradiction | (simp_all; done))))) (by first | rfl | (simp only [saysM, saysS, h_1, h_2, hjc, h_3, h_4, ↓reduceIte, Bool.false_eq_true]; done) | (simp only [saysM, saysS, h_1, h_2, hjc, h_3, h_4, ↓reduceIte, Bool.false_eq_true]; rfl))
theorem cm_X12_unsays {G : ab_G} (hG : ab_GG G) {A : List ab_E} {s : MS} {B : List ab_E} (hA : A.length = 42)  {nl nw ns : Nat} (hI : mI s nl nw ns)  : ab_CM G mX12_unsays [.ref 42] (mH A s B) (some (.int (unsaysM s))) (mH A (unsaysS s) B) := by
  refine ab_meth (l0 := [(0, .ref 42)]) hG (by decide +kernel) rfl (Nat.le_of_ble_eq_true rfl) mH_lenE mH_szE (fun X hX hF => ?_)
  obtain ⟨hl, hl6, hw, hw5, hs, hs10⟩ := id hI
  refine ab_aload_n hX dX12_unsays_0 mm0 ?_
  refine ab_getfield hX dX12_unsays_1 (fs_X12_51_13 rfl) (mg_o hA) rfl ?_
  refine ab_ifne (tgt := 12) hX dX12_unsays_4 (by decide) (fun h_1 => ?_) (fun h_1 => ?_)
  ·
    refine ab_aload_n hX dX12_unsays_12 mm0 ?_
    refine ab_dup hX dX12_unsays_13 rfl ?_
    refine ab_getfield hX dX12_unsays_14 (fs_X12_51_13 rfl) (mg_o hA) rfl ?_
    refine ab_iconst (v := 1) hX dX12_unsays_17 (by decide) ?_
    refine ab_isub hX dX12_unsays_18 ?_
    refine ab_dup_x1 hX dX12_unsays_19 rfl rfl ?_
    refine ab_putfield hX dX12_unsays_20 ps_X12_unsays_51_13 (mg_o hA) (Nat.le_of_ble_eq_true rfl) rfl rfl (mx_5 hA) ?_
    exact ab_ireturn hX hF dX12_unsays_23 rfl (by rfl) (congrArg some (congrArg Value.int (by first | rfl | (simp only [unsaysM, unsaysS, h_1, ↓reduceIte, Bool.false_eq_true]; done) | (simp only [unsaysM, unsaysS, h_1, ↓reduceIte, Bool.false_eq_true]; rfl) | (unfold unsaysM; (repeat' split) <;> first | rfl | contradiction | (simp_all; done))))) (by first | rfl | (simp only [unsaysM, unsaysS, h_1, ↓reduceIte, Bool.false_eq_true]; done) | (simp only [unsaysM, unsaysS, h_1, ↓reduceIte, Bool.false_eq_true]; rfl))
  ·
    refine ab_bipush (v := (-3)) hX dX12_unsays_7 (by decide) ?_
    refine ab_goto (tgt := 23) hX dX12_unsays_9 (by decide) ?_
    exact ab_ireturn hX hF dX12_unsays_23 rfl (by rfl) (congrArg some (congrArg Value.int (by first | rfl | (simp only [unsaysM, unsaysS, h_1, ↓reduceIte, Bool.false_eq_true]; done) | (simp only [unsaysM, unsaysS, h_1, ↓reduceIte, Bool.false_eq_true]; rfl) | (unfold unsaysM; (repeat' split) <;> first | rfl | contradiction | (simp_all; done))))) (by first | rfl | (simp only [unsaysM, unsaysS, h_1, ↓reduceIte, Bool.false_eq_true]; done) | (simp only [unsaysM, unsaysS, h_1, ↓reduceIte, Bool.false_eq_true]; rfl))
theorem cm_X12_witness {G : ab_G} (hG : ab_GG G) {A : List ab_E} {s : MS} {B : List ab_E} (hA : A.length = 42) {k : Int32} {nl nw ns : Nat} (hI : mI s nl nw ns)  : ab_CM G mX12_witness [.ref 42, .int k] (mH A s B) (some (.int (witM s k))) (mH A (witS s nw k) B) := by
  refine ab_meth (l0 := [(0, .ref 42), (1, .int k)]) hG (by decide +kernel) rfl (Nat.le_of_ble_eq_true rfl) mH_lenE mH_szE (fun X hX hF => ?_)
  obtain ⟨hl, hl6, hw, hw5, hs, hs10⟩ := id hI
  refine ab_iload_n hX dX12_witness_0 mm1 ?_
  refine ab_iconst (v := 0) hX dX12_witness_1 (by decide) ?_
  refine ab_bipush (v := 63) hX dX12_witness_2 (by decide) ?_
  refine ab_callS3r hX dX12_witness_4 ss_X12_witness_43 (cm_X12_within hG) (Nat.le_of_ble_eq_true rfl) ?_
  refine ab_ifneB (tgt := 12) hX dX12_witness_7 (by decide) (fun h_1 => ?_) (fun h_1 => ?_)
  ·
    refine ab_aload_n hX dX12_witness_12 mm0 ?_
    refine ab_getfield hX dX12_witness_13 (fs_X12_47_13 rfl) (mg_o hA) rfl ?_
    refine ab_iconst (v := 5) hX dX12_witness_16 (by decide) ?_
    refine ab_icmpne (tgt := 23) hX dX12_witness_17 (by decide) (fun h_2 => ?_) (fun h_2 => ?_)
    ·
      have hn6 := neL hw hw5 h_2
      refine ab_aload_n hX dX12_witness_23 mm0 ?_
      refine ab_getfield hX dX12_witness_24 (fs_X12_13_13 rfl) (mg_o hA) rfl ?_
      refine ab_aload_n hX dX12_witness_27 mm0 ?_
      refine ab_getfield hX dX12_witness_28 (fs_X12_47_13 rfl) (mg_o hA) rfl ?_
      refine ab_iload_n hX dX12_witness_31 mm1 ?_
      refine ab_iast (i := nw) hX dX12_witness_32 (mg_4 hA) hw (by omega) (by decide) (mx_4 hA) ?_
      refine ab_aload_n hX dX12_witness_33 mm0 ?_
      refine ab_dup hX dX12_witness_34 rfl ?_
      refine ab_getfield hX dX12_witness_35 (fs_X12_47_13 rfl) (mg_o hA) rfl ?_
      refine ab_dup_x1 hX dX12_witness_38 rfl rfl ?_
      refine ab_iconst (v := 1) hX dX12_witness_39 (by decide) ?_
      refine ab_iadd hX dX12_witness_40 ?_
      refine ab_putfield hX dX12_witness_41 ps_X12_witness_47_13 (mg_o hA) (Nat.le_of_ble_eq_true rfl) rfl rfl (mx_3 hA) ?_
      exact ab_ireturn hX hF dX12_witness_44 rfl (by rfl) (congrArg some (congrArg Value.int (by first | rfl | (simp only [witM, witS, h_1, h_2, ↓reduceIte, Bool.false_eq_true]; done) | (simp only [witM, witS, h_1, h_2, ↓reduceIte, Bool.false_eq_true]; rfl) | (unfold witM; (repeat' split) <;> first | rfl | contradiction | (simp_all; done))))) (by first | rfl | (simp only [witM, witS, h_1, h_2, ↓reduceIte, Bool.false_eq_true]; done) | (simp only [witM, witS, h_1, h_2, ↓reduceIte, Bool.false_eq_true]; rfl))
    ·
      refine ab_bipush (v := (-2)) hX dX12_witness_20 (by decide) ?_
      exact ab_ireturn hX hF dX12_witness_22 rfl (by rfl) (congrArg some (congrArg Value.int (by first | rfl | (simp only [witM, witS, h_1, h_2, ↓reduceIte, Bool.false_eq_true]; done) | (simp only [witM, witS, h_1, h_2, ↓reduceIte, Bool.false_eq_true]; rfl) | (unfold witM; (repeat' split) <;> first | rfl | contradiction | (simp_all; done))))) (by first | rfl | (simp only [witM, witS, h_1, h_2, ↓reduceIte, Bool.false_eq_true]; done) | (simp only [witM, witS, h_1, h_2, ↓reduceIte, Bool.false_eq_true]; rfl))
  ·
    refine ab_iconst (v := (-1)) hX dX12_witness_10 (by decide) ?_
    exact ab_ireturn hX hF dX12_witness_11 rfl (by rfl) (congrArg some (congrArg Value.int (by first | rfl | (simp only [witM, witS, h_1, ↓reduceIte, Bool.false_eq_true]; done) | (simp only [witM, witS, h_1, ↓reduceIte, Bool.false_eq_true]; rfl) | (unfold witM; (repeat' split) <;> first | rfl | contradiction | (simp_all; done))))) (by first | rfl | (simp only [witM, witS, h_1, ↓reduceIte, Bool.false_eq_true]; done) | (simp only [witM, witS, h_1, ↓reduceIte, Bool.false_eq_true]; rfl))
theorem cm_X12_truth {G : ab_G} (hG : ab_GG G) {A : List ab_E} {s : MS} {B : List ab_E} (hA : A.length = 42) {w : Int32} {nl nw ns : Nat} (hI : mI s nl nw ns)  : ab_CM G mX12_truth [.ref 42, .int w] (mH A s B) (some (.int (truM s w))) (mH A (truS s w) B) := by
  refine ab_meth (l0 := [(0, .ref 42), (1, .int w)]) hG (by decide +kernel) rfl (Nat.le_of_ble_eq_true rfl) mH_lenE mH_szE (fun X hX hF => ?_)
  obtain ⟨hl, hl6, hw, hw5, hs, hs10⟩ := id hI
  refine ab_iload_n hX dX12_truth_0 mm1 ?_
  refine ab_iconst (v := 0) hX dX12_truth_1 (by decide) ?_
  refine ab_bipush (v := 63) hX dX12_truth_2 (by decide) ?_
  refine ab_callS3r hX dX12_truth_4 ss_X12_truth_43 (cm_X12_within hG) (Nat.le_of_ble_eq_true rfl) ?_
  refine ab_ifneB (tgt := 12) hX dX12_truth_7 (by decide) (fun h_1 => ?_) (fun h_1 => ?_)
  ·
    refine ab_aload_n hX dX12_truth_12 mm0 ?_
    refine ab_getfield hX dX12_truth_13 (fs_X12_61_13 rfl) (mg_o hA) rfl ?_
    refine ab_istore_n hX dX12_truth_16 rfl (by decide) rfl ?_
    refine ab_aload_n hX dX12_truth_17 mm1 ?_
    refine ab_iload_n hX dX12_truth_18 mm2 ?_
    refine ab_putfield hX dX12_truth_19 ps_X12_truth_61_13 (mg_o hA) (Nat.le_of_ble_eq_true rfl) rfl rfl (mx_0 hA) ?_
    refine ab_iload_n hX dX12_truth_22 mm0 ?_
    exact ab_ireturn hX hF dX12_truth_23 rfl (by rfl) (congrArg some (congrArg Value.int (by first | rfl | (simp only [truM, truS, h_1, ↓reduceIte, Bool.false_eq_true]; done) | (simp only [truM, truS, h_1, ↓reduceIte, Bool.false_eq_true]; rfl) | (unfold truM; (repeat' split) <;> first | rfl | contradiction | (simp_all; done))))) (by first | rfl | (simp only [truM, truS, h_1, ↓reduceIte, Bool.false_eq_true]; done) | (simp only [truM, truS, h_1, ↓reduceIte, Bool.false_eq_true]; rfl))
  ·
    refine ab_iconst (v := (-1)) hX dX12_truth_10 (by decide) ?_
    exact ab_ireturn hX hF dX12_truth_11 rfl (by rfl) (congrArg some (congrArg Value.int (by first | rfl | (simp only [truM, truS, h_1, ↓reduceIte, Bool.false_eq_true]; done) | (simp only [truM, truS, h_1, ↓reduceIte, Bool.false_eq_true]; rfl) | (unfold truM; (repeat' split) <;> first | rfl | contradiction | (simp_all; done))))) (by first | rfl | (simp only [truM, truS, h_1, ↓reduceIte, Bool.false_eq_true]; done) | (simp only [truM, truS, h_1, ↓reduceIte, Bool.false_eq_true]; rfl))
theorem cm_X12_keep_old {G : ab_G} (hG : ab_GG G) {A : List ab_E} {s : MS} {B : List ab_E} (hA : A.length = 42)   : ab_CM G mX12_keep [.ref 42, .ref 52] (mH A s B) (none) (mH A (kpS 16 s) B) := by
  refine ab_meth (l0 := [(0, .ref 42), (1, .ref 52)]) hG (by decide +kernel) rfl (Nat.le_of_ble_eq_true rfl) mH_lenE mH_szE (fun X hX hF => ?_)
  refine ab_iconst (v := 0) hX dX12_keep_0 (by decide) ?_
  refine ab_istore_n hX dX12_keep_1 rfl (by decide) rfl ?_
  have L2 : ∀ (k2_ : Nat) (i : Nat) (hi_ : i ≤ 6), k2_ = 6 - i → ab_WA G mX12_keep X 2 [(0, .ref 42), (1, .ref 52), (2, .int (nI i))] [] (mH A (acc (kp1 16) s i) B) := by
    intro k2_
    induction k2_ using Nat.strongRecOn with
    | _ k2_ ih2 =>
      intro i hi_ hk2_
      refine ab_iload_n hX dX12_keep_2 mm2 ?_
      refine ab_bipush (v := 6) hX dX12_keep_3 (by decide) ?_
      refine ab_icmpge (tgt := 23) hX dX12_keep_5 (by decide) (fun h_1 => ?_) (fun h_1 => ?_)
      ·
        have hx_ := ctE (N := 6) h_1 (by rfl) (by omega) (by omega)
        obtain rfl : 6 = i := by omega
        refine ab_iconst (v := 0) hX dX12_keep_23 (by decide) ?_
        refine ab_istore_n hX dX12_keep_24 rfl (by decide) rfl ?_
        have L25 : ∀ (k25_ : Nat) (j : Nat) (hj_ : j ≤ 5), k25_ = 5 - j → ab_WA G mX12_keep X 25 [(0, .ref 42), (1, .ref 52), (2, .int (nI j))] [] (mH A (acc (kp2 16) (acc (kp1 16) s 6) j) B) := by
          intro k25_
          induction k25_ using Nat.strongRecOn with
          | _ k25_ ih25 =>
            intro j hj_ hk25_
            refine ab_iload_n hX dX12_keep_25 mm2 ?_
            refine ab_iconst (v := 5) hX dX12_keep_26 (by decide) ?_
            refine ab_icmpge (tgt := 48) hX dX12_keep_27 (by decide) (fun h_2 => ?_) (fun h_2 => ?_)
            ·
              have hx_ := ctE (N := 5) h_2 (by rfl) (by omega) (by omega)
              obtain rfl : 5 = j := by omega
              refine ab_iconst (v := 0) hX dX12_keep_48 (by decide) ?_
              refine ab_istore_n hX dX12_keep_49 rfl (by decide) rfl ?_
              have L50 : ∀ (k50_ : Nat) (m : Nat) (hm_ : m ≤ 10), k50_ = 10 - m → ab_WA G mX12_keep X 50 [(0, .ref 42), (1, .ref 52), (2, .int (nI m))] [] (mH A (acc (kp3 16) (acc (kp2 16) (acc (kp1 16) s 6) 5) m) B) := by
                intro k50_
                induction k50_ using Nat.strongRecOn with
                | _ k50_ ih50 =>
                  intro m hm_ hk50_
                  refine ab_iload_n hX dX12_keep_50 mm2 ?_
                  refine ab_bipush (v := 10) hX dX12_keep_51 (by decide) ?_
                  refine ab_icmpge (tgt := 86) hX dX12_keep_53 (by decide) (fun h_3 => ?_) (fun h_3 => ?_)
                  ·
                    have hx_ := ctE (N := 10) h_3 (by rfl) (by omega) (by omega)
                    obtain rfl : 10 = m := by omega
                    refine ab_aload_n hX dX12_keep_86 mm1 ?_
                    refine ab_bipush (v := 31) hX dX12_keep_87 (by decide) ?_
                    refine ab_aload_n hX dX12_keep_89 mm0 ?_
                    refine ab_getfield hX dX12_keep_90 (fs_X12_94_13 rfl) (mg_o hA) rfl ?_
                    refine ab_iast (i := 31) hX dX12_keep_93 (mg_16 hA) rfl (by decide) (by decide) (mx_16 hA) ?_
                    refine ab_aload_n hX dX12_keep_94 mm1 ?_
                    refine ab_bipush (v := 32) hX dX12_keep_95 (by decide) ?_
                    refine ab_aload_n hX dX12_keep_97 mm0 ?_
                    refine ab_getfield hX dX12_keep_98 (fs_X12_47_13 rfl) (mg_o hA) rfl ?_
                    refine ab_iast (i := 32) hX dX12_keep_101 (mg_16 hA) rfl (by decide) (by decide) (mx_16 hA) ?_
                    refine ab_aload_n hX dX12_keep_102 mm1 ?_
                    refine ab_bipush (v := 33) hX dX12_keep_103 (by decide) ?_
                    refine ab_aload_n hX dX12_keep_105 mm0 ?_
                    refine ab_getfield hX dX12_keep_106 (fs_X12_51_13 rfl) (mg_o hA) rfl ?_
                    refine ab_iast (i := 33) hX dX12_keep_109 (mg_16 hA) rfl (by decide) (by decide) (mx_16 hA) ?_
                    refine ab_aload_n hX dX12_keep_110 mm1 ?_
                    refine ab_bipush (v := 34) hX dX12_keep_111 (by decide) ?_
                    refine ab_aload_n hX dX12_keep_113 mm0 ?_
                    refine ab_getfield hX dX12_keep_114 (fs_X12_61_13 rfl) (mg_o hA) rfl ?_
                    refine ab_iast (i := 34) hX dX12_keep_117 (mg_16 hA) rfl (by decide) (by decide) (mx_16 hA) ?_
                    exact ab_vreturn hX hF dX12_keep_118 rfl rfl (by rfl)
                  ·
                    have hltm_ := ctL (N := 10) h_3 (by rfl) (by omega) (by omega)
                    refine ab_aload_n hX dX12_keep_56 mm1 ?_
                    refine ab_bipush (v := 11) hX dX12_keep_57 (by decide) ?_
                    refine ab_iload_n hX dX12_keep_59 mm2 ?_
                    refine ab_iadd hX dX12_keep_60 ?_
                    refine ab_aload_n hX dX12_keep_61 mm0 ?_
                    refine ab_getfield hX dX12_keep_62 (fs_X12_16_13 rfl) (mg_o hA) rfl ?_
                    refine ab_iload_n hX dX12_keep_65 mm2 ?_
                    refine ab_iald (i := m) hX dX12_keep_66 (mg_6 hA) rfl (by omega) (by decide) ?_
                    refine ab_iast (i := (11 + m)) hX dX12_keep_67 (mg_16 hA) (nI_add 11 m) (by omega) (by decide) (mx_16 hA) ?_
                    refine ab_aload_n hX dX12_keep_68 mm1 ?_
                    refine ab_bipush (v := 21) hX dX12_keep_69 (by decide) ?_
                    refine ab_iload_n hX dX12_keep_71 mm2 ?_
                    refine ab_iadd hX dX12_keep_72 ?_
                    refine ab_aload_n hX dX12_keep_73 mm0 ?_
                    refine ab_getfield hX dX12_keep_74 (fs_X12_19_13 rfl) (mg_o hA) rfl ?_
                    refine ab_iload_n hX dX12_keep_77 mm2 ?_
                    refine ab_iald (i := m) hX dX12_keep_78 (mg_7 hA) rfl (by omega) (by decide) ?_
                    refine ab_iast (i := (21 + m)) hX dX12_keep_79 (mg_16 hA) (nI_add 21 m) (by omega) (by decide) (mx_16 hA) ?_
                    refine ab_iinc hX dX12_keep_80 mm2 rfl (by decide) rfl ?_
                    refine ab_goto (tgt := 50) hX dX12_keep_83 (by decide) ?_
                    exact ab_pm3 mm1 mm2 (mmv0 (congrArg Value.int (by first | rfl | exact (nI_1 _).symm))) (ih50 (_) (by omega) (m + 1) (by omega) rfl)
              exact ab_pm3 mm1 mm2 (mmv0 (congrArg Value.int (by rfl))) (L50 _ 0 (by omega) rfl)
            ·
              have hltj_ := ctL (N := 5) h_2 (by rfl) (by omega) (by omega)
              refine ab_aload_n hX dX12_keep_30 mm1 ?_
              refine ab_bipush (v := 6) hX dX12_keep_31 (by decide) ?_
              refine ab_iload_n hX dX12_keep_33 mm2 ?_
              refine ab_iadd hX dX12_keep_34 ?_
              refine ab_aload_n hX dX12_keep_35 mm0 ?_
              refine ab_getfield hX dX12_keep_36 (fs_X12_13_13 rfl) (mg_o hA) rfl ?_
              refine ab_iload_n hX dX12_keep_39 mm2 ?_
              refine ab_iald (i := j) hX dX12_keep_40 (mg_4 hA) rfl (by omega) (by decide) ?_
              refine ab_iast (i := (6 + j)) hX dX12_keep_41 (mg_16 hA) (nI_add 6 j) (by omega) (by decide) (mx_16 hA) ?_
              refine ab_iinc hX dX12_keep_42 mm2 rfl (by decide) rfl ?_
              refine ab_goto (tgt := 25) hX dX12_keep_45 (by decide) ?_
              exact ab_pm3 mm1 mm2 (mmv0 (congrArg Value.int (by first | rfl | exact (nI_1 _).symm))) (ih25 (_) (by omega) (j + 1) (by omega) rfl)
        exact ab_pm3 mm1 mm2 (mmv0 (congrArg Value.int (by rfl))) (L25 _ 0 (by omega) rfl)
      ·
        have hlti_ := ctL (N := 6) h_1 (by rfl) (by omega) (by omega)
        refine ab_aload_n hX dX12_keep_8 mm1 ?_
        refine ab_iload_n hX dX12_keep_9 mm2 ?_
        refine ab_aload_n hX dX12_keep_10 mm0 ?_
        refine ab_getfield hX dX12_keep_11 (fs_X12_7_13 rfl) (mg_o hA) rfl ?_
        refine ab_iload_n hX dX12_keep_14 mm2 ?_
        refine ab_iald (i := i) hX dX12_keep_15 (mg_2 hA) rfl (by omega) (by decide) ?_
        refine ab_iast (i := i) hX dX12_keep_16 (mg_16 hA) rfl (by omega) (by decide) (mx_16 hA) ?_
        refine ab_iinc hX dX12_keep_17 mm2 rfl (by decide) rfl ?_
        refine ab_goto (tgt := 2) hX dX12_keep_20 (by decide) ?_
        exact ab_pm3 mm1 mm2 (mmv0 (congrArg Value.int (by first | rfl | exact (nI_1 _).symm))) (ih2 (_) (by omega) (i + 1) (by omega) rfl)
  exact ab_pm3 mm1 mm2 (mmv0 (congrArg Value.int (by rfl))) (L2 _ 0 (by omega) rfl)
theorem cm_X12_again_old {G : ab_G} (hG : ab_GG G) {A : List ab_E} {s : MS} {B : List ab_E} (hA : A.length = 42)   : ab_CM G mX12_again [.ref 42, .ref 52] (mH A s B) (none) (mH A (agS 16 s) B) := by
  refine ab_meth (l0 := [(0, .ref 42), (1, .ref 52)]) hG (by decide +kernel) rfl (Nat.le_of_ble_eq_true rfl) mH_lenE mH_szE (fun X hX hF => ?_)
  refine ab_iconst (v := 0) hX dX12_again_0 (by decide) ?_
  refine ab_istore_n hX dX12_again_1 rfl (by decide) rfl ?_
  have L2 : ∀ (k2_ : Nat) (i : Nat) (hi_ : i ≤ 6), k2_ = 6 - i → ab_WA G mX12_again X 2 [(0, .ref 42), (1, .ref 52), (2, .int (nI i))] [] (mH A (acc (ag1 16) s i) B) := by
    intro k2_
    induction k2_ using Nat.strongRecOn with
    | _ k2_ ih2 =>
      intro i hi_ hk2_
      refine ab_iload_n hX dX12_again_2 mm2 ?_
      refine ab_bipush (v := 6) hX dX12_again_3 (by decide) ?_
      refine ab_icmpge (tgt := 23) hX dX12_again_5 (by decide) (fun h_1 => ?_) (fun h_1 => ?_)
      ·
        have hx_ := ctE (N := 6) h_1 (by rfl) (by omega) (by omega)
        obtain rfl : 6 = i := by omega
        refine ab_iconst (v := 0) hX dX12_again_23 (by decide) ?_
        refine ab_istore_n hX dX12_again_24 rfl (by decide) rfl ?_
        have L25 : ∀ (k25_ : Nat) (j : Nat) (hj_ : j ≤ 5), k25_ = 5 - j → ab_WA G mX12_again X 25 [(0, .ref 42), (1, .ref 52), (2, .int (nI j))] [] (mH A (acc (ag2 16) (acc (ag1 16) s 6) j) B) := by
          intro k25_
          induction k25_ using Nat.strongRecOn with
          | _ k25_ ih25 =>
            intro j hj_ hk25_
            refine ab_iload_n hX dX12_again_25 mm2 ?_
            refine ab_iconst (v := 5) hX dX12_again_26 (by decide) ?_
            refine ab_icmpge (tgt := 48) hX dX12_again_27 (by decide) (fun h_2 => ?_) (fun h_2 => ?_)
            ·
              have hx_ := ctE (N := 5) h_2 (by rfl) (by omega) (by omega)
              obtain rfl : 5 = j := by omega
              refine ab_iconst (v := 0) hX dX12_again_48 (by decide) ?_
              refine ab_istore_n hX dX12_again_49 rfl (by decide) rfl ?_
              have L50 : ∀ (k50_ : Nat) (m : Nat) (hm_ : m ≤ 10), k50_ = 10 - m → ab_WA G mX12_again X 50 [(0, .ref 42), (1, .ref 52), (2, .int (nI m))] [] (mH A (acc (ag3 16) (acc (ag2 16) (acc (ag1 16) s 6) 5) m) B) := by
                intro k50_
                induction k50_ using Nat.strongRecOn with
                | _ k50_ ih50 =>
                  intro m hm_ hk50_
                  refine ab_iload_n hX dX12_again_50 mm2 ?_
                  refine ab_bipush (v := 10) hX dX12_again_51 (by decide) ?_
                  refine ab_icmpge (tgt := 86) hX dX12_again_53 (by decide) (fun h_3 => ?_) (fun h_3 => ?_)
                  ·
                    have hx_ := ctE (N := 10) h_3 (by rfl) (by omega) (by omega)
                    obtain rfl : 10 = m := by omega
                    refine ab_aload_n hX dX12_again_86 mm0 ?_
                    refine ab_aload_n hX dX12_again_87 mm1 ?_
                    refine ab_bipush (v := 31) hX dX12_again_88 (by decide) ?_
                    refine ab_iald (i := 31) hX dX12_again_90 (mg_16 hA) rfl (by decide) (by decide) ?_
                    refine ab_putfield hX dX12_again_91 ps_X12_again_94_13 (mg_o hA) (Nat.le_of_ble_eq_true rfl) rfl rfl (mx_1 hA) ?_
                    refine ab_aload_n hX dX12_again_94 mm0 ?_
                    refine ab_aload_n hX dX12_again_95 mm1 ?_
                    refine ab_bipush (v := 32) hX dX12_again_96 (by decide) ?_
                    refine ab_iald (i := 32) hX dX12_again_98 (mg_16 hA) rfl (by decide) (by decide) ?_
                    refine ab_putfield hX dX12_again_99 ps_X12_again_47_13 (mg_o hA) (Nat.le_of_ble_eq_true rfl) rfl rfl (mx_3 hA) ?_
                    refine ab_aload_n hX dX12_again_102 mm0 ?_
                    refine ab_aload_n hX dX12_again_103 mm1 ?_
                    refine ab_bipush (v := 33) hX dX12_again_104 (by decide) ?_
                    refine ab_iald (i := 33) hX dX12_again_106 (mg_16 hA) rfl (by decide) (by decide) ?_
                    refine ab_putfield hX dX12_again_107 ps_X12_again_51_13 (mg_o hA) (Nat.le_of_ble_eq_true rfl) rfl rfl (mx_5 hA) ?_
                    refine ab_aload_n hX dX12_again_110 mm0 ?_
                    refine ab_aload_n hX dX12_again_111 mm1 ?_
                    refine ab_bipush (v := 34) hX dX12_again_112 (by decide) ?_
                    refine ab_iald (i := 34) hX dX12_again_114 (mg_16 hA) rfl (by decide) (by decide) ?_
                    refine ab_putfield hX dX12_again_115 ps_X12_again_61_13 (mg_o hA) (Nat.le_of_ble_eq_true rfl) rfl rfl (mx_0 hA) ?_
                    exact ab_vreturn hX hF dX12_again_118 rfl rfl (by rfl)
                  ·
                    have hltm_ := ctL (N := 10) h_3 (by rfl) (by omega) (by omega)
                    refine ab_aload_n hX dX12_again_56 mm0 ?_
                    refine ab_getfield hX dX12_again_57 (fs_X12_16_13 rfl) (mg_o hA) rfl ?_
                    refine ab_iload_n hX dX12_again_60 mm2 ?_
                    refine ab_aload_n hX dX12_again_61 mm1 ?_
                    refine ab_bipush (v := 11) hX dX12_again_62 (by decide) ?_
                    refine ab_iload_n hX dX12_again_64 mm2 ?_
                    refine ab_iadd hX dX12_again_65 ?_
                    refine ab_iald (i := (11 + m)) hX dX12_again_66 (mg_16 hA) (nI_add 11 m) (by omega) (by decide) ?_
                    refine ab_iast (i := m) hX dX12_again_67 (mg_6 hA) rfl (by omega) (by decide) (mx_6 hA) ?_
                    refine ab_aload_n hX dX12_again_68 mm0 ?_
                    refine ab_getfield hX dX12_again_69 (fs_X12_19_13 rfl) (mg_o hA) rfl ?_
                    refine ab_iload_n hX dX12_again_72 mm2 ?_
                    refine ab_aload_n hX dX12_again_73 mm1 ?_
                    refine ab_bipush (v := 21) hX dX12_again_74 (by decide) ?_
                    refine ab_iload_n hX dX12_again_76 mm2 ?_
                    refine ab_iadd hX dX12_again_77 ?_
                    refine ab_iald (i := (21 + m)) hX dX12_again_78 (mg_16 hA) (nI_add 21 m) (by omega) (by decide) ?_
                    refine ab_iast (i := m) hX dX12_again_79 (mg_7 hA) rfl (by omega) (by decide) (mx_7 hA) ?_
                    refine ab_iinc hX dX12_again_80 mm2 rfl (by decide) rfl ?_
                    refine ab_goto (tgt := 50) hX dX12_again_83 (by decide) ?_
                    exact ab_pm3 mm1 mm2 (mmv0 (congrArg Value.int (by first | rfl | exact (nI_1 _).symm))) (ih50 (_) (by omega) (m + 1) (by omega) rfl)
              exact ab_pm3 mm1 mm2 (mmv0 (congrArg Value.int (by rfl))) (L50 _ 0 (by omega) rfl)
            ·
              have hltj_ := ctL (N := 5) h_2 (by rfl) (by omega) (by omega)
              refine ab_aload_n hX dX12_again_30 mm0 ?_
              refine ab_getfield hX dX12_again_31 (fs_X12_13_13 rfl) (mg_o hA) rfl ?_
              refine ab_iload_n hX dX12_again_34 mm2 ?_
              refine ab_aload_n hX dX12_again_35 mm1 ?_
              refine ab_bipush (v := 6) hX dX12_again_36 (by decide) ?_
              refine ab_iload_n hX dX12_again_38 mm2 ?_
              refine ab_iadd hX dX12_again_39 ?_
              refine ab_iald (i := (6 + j)) hX dX12_again_40 (mg_16 hA) (nI_add 6 j) (by omega) (by decide) ?_
              refine ab_iast (i := j) hX dX12_again_41 (mg_4 hA) rfl (by omega) (by decide) (mx_4 hA) ?_
              refine ab_iinc hX dX12_again_42 mm2 rfl (by decide) rfl ?_
              refine ab_goto (tgt := 25) hX dX12_again_45 (by decide) ?_
              exact ab_pm3 mm1 mm2 (mmv0 (congrArg Value.int (by first | rfl | exact (nI_1 _).symm))) (ih25 (_) (by omega) (j + 1) (by omega) rfl)
        exact ab_pm3 mm1 mm2 (mmv0 (congrArg Value.int (by rfl))) (L25 _ 0 (by omega) rfl)
      ·
        have hlti_ := ctL (N := 6) h_1 (by rfl) (by omega) (by omega)
        refine ab_aload_n hX dX12_again_8 mm0 ?_
        refine ab_getfield hX dX12_again_9 (fs_X12_7_13 rfl) (mg_o hA) rfl ?_
        refine ab_iload_n hX dX12_again_12 mm2 ?_
        refine ab_aload_n hX dX12_again_13 mm1 ?_
        refine ab_iload_n hX dX12_again_14 mm2 ?_
        refine ab_iald (i := i) hX dX12_again_15 (mg_16 hA) rfl (by omega) (by decide) ?_
        refine ab_iast (i := i) hX dX12_again_16 (mg_2 hA) rfl (by omega) (by decide) (mx_2 hA) ?_
        refine ab_iinc hX dX12_again_17 mm2 rfl (by decide) rfl ?_
        refine ab_goto (tgt := 2) hX dX12_again_20 (by decide) ?_
        exact ab_pm3 mm1 mm2 (mmv0 (congrArg Value.int (by first | rfl | exact (nI_1 _).symm))) (ih2 (_) (by omega) (i + 1) (by omega) rfl)
  exact ab_pm3 mm1 mm2 (mmv0 (congrArg Value.int (by rfl))) (L2 _ 0 (by omega) rfl)
theorem cm_X12_keep_ahead {G : ab_G} (hG : ab_GG G) {A : List ab_E} {s : MS} {B : List ab_E} (hA : A.length = 42)   : ab_CM G mX12_keep [.ref 42, .ref 53] (mH A s B) (none) (mH A (kpS 17 s) B) := by
  refine ab_meth (l0 := [(0, .ref 42), (1, .ref 53)]) hG (by decide +kernel) rfl (Nat.le_of_ble_eq_true rfl) mH_lenE mH_szE (fun X hX hF => ?_)
  refine ab_iconst (v := 0) hX dX12_keep_0 (by decide) ?_
  refine ab_istore_n hX dX12_keep_1 rfl (by decide) rfl ?_
  have L2 : ∀ (k2_ : Nat) (i : Nat) (hi_ : i ≤ 6), k2_ = 6 - i → ab_WA G mX12_keep X 2 [(0, .ref 42), (1, .ref 53), (2, .int (nI i))] [] (mH A (acc (kp1 17) s i) B) := by
    intro k2_
    induction k2_ using Nat.strongRecOn with
    | _ k2_ ih2 =>
      intro i hi_ hk2_
      refine ab_iload_n hX dX12_keep_2 mm2 ?_
      refine ab_bipush (v := 6) hX dX12_keep_3 (by decide) ?_
      refine ab_icmpge (tgt := 23) hX dX12_keep_5 (by decide) (fun h_1 => ?_) (fun h_1 => ?_)
      ·
        have hx_ := ctE (N := 6) h_1 (by rfl) (by omega) (by omega)
        obtain rfl : 6 = i := by omega
        refine ab_iconst (v := 0) hX dX12_keep_23 (by decide) ?_
        refine ab_istore_n hX dX12_keep_24 rfl (by decide) rfl ?_
        have L25 : ∀ (k25_ : Nat) (j : Nat) (hj_ : j ≤ 5), k25_ = 5 - j → ab_WA G mX12_keep X 25 [(0, .ref 42), (1, .ref 53), (2, .int (nI j))] [] (mH A (acc (kp2 17) (acc (kp1 17) s 6) j) B) := by
          intro k25_
          induction k25_ using Nat.strongRecOn with
          | _ k25_ ih25 =>
            intro j hj_ hk25_
            refine ab_iload_n hX dX12_keep_25 mm2 ?_
            refine ab_iconst (v := 5) hX dX12_keep_26 (by decide) ?_
            refine ab_icmpge (tgt := 48) hX dX12_keep_27 (by decide) (fun h_2 => ?_) (fun h_2 => ?_)
            ·
              have hx_ := ctE (N := 5) h_2 (by rfl) (by omega) (by omega)
              obtain rfl : 5 = j := by omega
              refine ab_iconst (v := 0) hX dX12_keep_48 (by decide) ?_
              refine ab_istore_n hX dX12_keep_49 rfl (by decide) rfl ?_
              have L50 : ∀ (k50_ : Nat) (m : Nat) (hm_ : m ≤ 10), k50_ = 10 - m → ab_WA G mX12_keep X 50 [(0, .ref 42), (1, .ref 53), (2, .int (nI m))] [] (mH A (acc (kp3 17) (acc (kp2 17) (acc (kp1 17) s 6) 5) m) B) := by
                intro k50_
                induction k50_ using Nat.strongRecOn with
                | _ k50_ ih50 =>
                  intro m hm_ hk50_
                  refine ab_iload_n hX dX12_keep_50 mm2 ?_
                  refine ab_bipush (v := 10) hX dX12_keep_51 (by decide) ?_
                  refine ab_icmpge (tgt := 86) hX dX12_keep_53 (by decide) (fun h_3 => ?_) (fun h_3 => ?_)
                  ·
                    have hx_ := ctE (N := 10) h_3 (by rfl) (by omega) (by omega)
                    obtain rfl : 10 = m := by omega
                    refine ab_aload_n hX dX12_keep_86 mm1 ?_
                    refine ab_bipush (v := 31) hX dX12_keep_87 (by decide) ?_
                    refine ab_aload_n hX dX12_keep_89 mm0 ?_
                    refine ab_getfield hX dX12_keep_90 (fs_X12_94_13 rfl) (mg_o hA) rfl ?_
                    refine ab_iast (i := 31) hX dX12_keep_93 (mg_17 hA) rfl (by decide) (by decide) (mx_17 hA) ?_
                    refine ab_aload_n hX dX12_keep_94 mm1 ?_
                    refine ab_bipush (v := 32) hX dX12_keep_95 (by decide) ?_
                    refine ab_aload_n hX dX12_keep_97 mm0 ?_
                    refine ab_getfield hX dX12_keep_98 (fs_X12_47_13 rfl) (mg_o hA) rfl ?_
                    refine ab_iast (i := 32) hX dX12_keep_101 (mg_17 hA) rfl (by decide) (by decide) (mx_17 hA) ?_
                    refine ab_aload_n hX dX12_keep_102 mm1 ?_
                    refine ab_bipush (v := 33) hX dX12_keep_103 (by decide) ?_
                    refine ab_aload_n hX dX12_keep_105 mm0 ?_
                    refine ab_getfield hX dX12_keep_106 (fs_X12_51_13 rfl) (mg_o hA) rfl ?_
                    refine ab_iast (i := 33) hX dX12_keep_109 (mg_17 hA) rfl (by decide) (by decide) (mx_17 hA) ?_
                    refine ab_aload_n hX dX12_keep_110 mm1 ?_
                    refine ab_bipush (v := 34) hX dX12_keep_111 (by decide) ?_
                    refine ab_aload_n hX dX12_keep_113 mm0 ?_
                    refine ab_getfield hX dX12_keep_114 (fs_X12_61_13 rfl) (mg_o hA) rfl ?_
                    refine ab_iast (i := 34) hX dX12_keep_117 (mg_17 hA) rfl (by decide) (by decide) (mx_17 hA) ?_
                    exact ab_vreturn hX hF dX12_keep_118 rfl rfl (by rfl)
                  ·
                    have hltm_ := ctL (N := 10) h_3 (by rfl) (by omega) (by omega)
                    refine ab_aload_n hX dX12_keep_56 mm1 ?_
                    refine ab_bipush (v := 11) hX dX12_keep_57 (by decide) ?_
                    refine ab_iload_n hX dX12_keep_59 mm2 ?_
                    refine ab_iadd hX dX12_keep_60 ?_
                    refine ab_aload_n hX dX12_keep_61 mm0 ?_
                    refine ab_getfield hX dX12_keep_62 (fs_X12_16_13 rfl) (mg_o hA) rfl ?_
                    refine ab_iload_n hX dX12_keep_65 mm2 ?_
                    refine ab_iald (i := m) hX dX12_keep_66 (mg_6 hA) rfl (by omega) (by decide) ?_
                    refine ab_iast (i := (11 + m)) hX dX12_keep_67 (mg_17 hA) (nI_add 11 m) (by omega) (by decide) (mx_17 hA) ?_
                    refine ab_aload_n hX dX12_keep_68 mm1 ?_
                    refine ab_bipush (v := 21) hX dX12_keep_69 (by decide) ?_
                    refine ab_iload_n hX dX12_keep_71 mm2 ?_
                    refine ab_iadd hX dX12_keep_72 ?_
                    refine ab_aload_n hX dX12_keep_73 mm0 ?_
                    refine ab_getfield hX dX12_keep_74 (fs_X12_19_13 rfl) (mg_o hA) rfl ?_
                    refine ab_iload_n hX dX12_keep_77 mm2 ?_
                    refine ab_iald (i := m) hX dX12_keep_78 (mg_7 hA) rfl (by omega) (by decide) ?_
                    refine ab_iast (i := (21 + m)) hX dX12_keep_79 (mg_17 hA) (nI_add 21 m) (by omega) (by decide) (mx_17 hA) ?_
                    refine ab_iinc hX dX12_keep_80 mm2 rfl (by decide) rfl ?_
                    refine ab_goto (tgt := 50) hX dX12_keep_83 (by decide) ?_
                    exact ab_pm3 mm1 mm2 (mmv0 (congrArg Value.int (by first | rfl | exact (nI_1 _).symm))) (ih50 (_) (by omega) (m + 1) (by omega) rfl)
              exact ab_pm3 mm1 mm2 (mmv0 (congrArg Value.int (by rfl))) (L50 _ 0 (by omega) rfl)
            ·
              have hltj_ := ctL (N := 5) h_2 (by rfl) (by omega) (by omega)
              refine ab_aload_n hX dX12_keep_30 mm1 ?_
              refine ab_bipush (v := 6) hX dX12_keep_31 (by decide) ?_
              refine ab_iload_n hX dX12_keep_33 mm2 ?_
              refine ab_iadd hX dX12_keep_34 ?_
              refine ab_aload_n hX dX12_keep_35 mm0 ?_
              refine ab_getfield hX dX12_keep_36 (fs_X12_13_13 rfl) (mg_o hA) rfl ?_
              refine ab_iload_n hX dX12_keep_39 mm2 ?_
              refine ab_iald (i := j) hX dX12_keep_40 (mg_4 hA) rfl (by omega) (by decide) ?_
              refine ab_iast (i := (6 + j)) hX dX12_keep_41 (mg_17 hA) (nI_add 6 j) (by omega) (by decide) (mx_17 hA) ?_
              refine ab_iinc hX dX12_keep_42 mm2 rfl (by decide) rfl ?_
              refine ab_goto (tgt := 25) hX dX12_keep_45 (by decide) ?_
              exact ab_pm3 mm1 mm2 (mmv0 (congrArg Value.int (by first | rfl | exact (nI_1 _).symm))) (ih25 (_) (by omega) (j + 1) (by omega) rfl)
        exact ab_pm3 mm1 mm2 (mmv0 (congrArg Value.int (by rfl))) (L25 _ 0 (by omega) rfl)
      ·
        have hlti_ := ctL (N := 6) h_1 (by rfl) (by omega) (by omega)
        refine ab_aload_n hX dX12_keep_8 mm1 ?_
        refine ab_iload_n hX dX12_keep_9 mm2 ?_
        refine ab_aload_n hX dX12_keep_10 mm0 ?_
        refine ab_getfield hX dX12_keep_11 (fs_X12_7_13 rfl) (mg_o hA) rfl ?_
        refine ab_iload_n hX dX12_keep_14 mm2 ?_
        refine ab_iald (i := i) hX dX12_keep_15 (mg_2 hA) rfl (by omega) (by decide) ?_
        refine ab_iast (i := i) hX dX12_keep_16 (mg_17 hA) rfl (by omega) (by decide) (mx_17 hA) ?_
        refine ab_iinc hX dX12_keep_17 mm2 rfl (by decide) rfl ?_
        refine ab_goto (tgt := 2) hX dX12_keep_20 (by decide) ?_
        exact ab_pm3 mm1 mm2 (mmv0 (congrArg Value.int (by first | rfl | exact (nI_1 _).symm))) (ih2 (_) (by omega) (i + 1) (by omega) rfl)
  exact ab_pm3 mm1 mm2 (mmv0 (congrArg Value.int (by rfl))) (L2 _ 0 (by omega) rfl)
theorem cm_X12_again_ahead {G : ab_G} (hG : ab_GG G) {A : List ab_E} {s : MS} {B : List ab_E} (hA : A.length = 42)   : ab_CM G mX12_again [.ref 42, .ref 53] (mH A s B) (none) (mH A (agS 17 s) B) := by
  refine ab_meth (l0 := [(0, .ref 42), (1, .ref 53)]) hG (by decide +kernel) rfl (Nat.le_of_ble_eq_true rfl) mH_lenE mH_szE (fun X hX hF => ?_)
  refine ab_iconst (v := 0) hX dX12_again_0 (by decide) ?_
  refine ab_istore_n hX dX12_again_1 rfl (by decide) rfl ?_
  have L2 : ∀ (k2_ : Nat) (i : Nat) (hi_ : i ≤ 6), k2_ = 6 - i → ab_WA G mX12_again X 2 [(0, .ref 42), (1, .ref 53), (2, .int (nI i))] [] (mH A (acc (ag1 17) s i) B) := by
    intro k2_
    induction k2_ using Nat.strongRecOn with
    | _ k2_ ih2 =>
      intro i hi_ hk2_
      refine ab_iload_n hX dX12_again_2 mm2 ?_
      refine ab_bipush (v := 6) hX dX12_again_3 (by decide) ?_
      refine ab_icmpge (tgt := 23) hX dX12_again_5 (by decide) (fun h_1 => ?_) (fun h_1 => ?_)
      ·
        have hx_ := ctE (N := 6) h_1 (by rfl) (by omega) (by omega)
        obtain rfl : 6 = i := by omega
        refine ab_iconst (v := 0) hX dX12_again_23 (by decide) ?_
        refine ab_istore_n hX dX12_again_24 rfl (by decide) rfl ?_
        have L25 : ∀ (k25_ : Nat) (j : Nat) (hj_ : j ≤ 5), k25_ = 5 - j → ab_WA G mX12_again X 25 [(0, .ref 42), (1, .ref 53), (2, .int (nI j))] [] (mH A (acc (ag2 17) (acc (ag1 17) s 6) j) B) := by
          intro k25_
          induction k25_ using Nat.strongRecOn with
          | _ k25_ ih25 =>
            intro j hj_ hk25_
            refine ab_iload_n hX dX12_again_25 mm2 ?_
            refine ab_iconst (v := 5) hX dX12_again_26 (by decide) ?_
            refine ab_icmpge (tgt := 48) hX dX12_again_27 (by decide) (fun h_2 => ?_) (fun h_2 => ?_)
            ·
              have hx_ := ctE (N := 5) h_2 (by rfl) (by omega) (by omega)
              obtain rfl : 5 = j := by omega
              refine ab_iconst (v := 0) hX dX12_again_48 (by decide) ?_
              refine ab_istore_n hX dX12_again_49 rfl (by decide) rfl ?_
              have L50 : ∀ (k50_ : Nat) (m : Nat) (hm_ : m ≤ 10), k50_ = 10 - m → ab_WA G mX12_again X 50 [(0, .ref 42), (1, .ref 53), (2, .int (nI m))] [] (mH A (acc (ag3 17) (acc (ag2 17) (acc (ag1 17) s 6) 5) m) B) := by
                intro k50_
                induction k50_ using Nat.strongRecOn with
                | _ k50_ ih50 =>
                  intro m hm_ hk50_
                  refine ab_iload_n hX dX12_again_50 mm2 ?_
                  refine ab_bipush (v := 10) hX dX12_again_51 (by decide) ?_
                  refine ab_icmpge (tgt := 86) hX dX12_again_53 (by decide) (fun h_3 => ?_) (fun h_3 => ?_)
                  ·
                    have hx_ := ctE (N := 10) h_3 (by rfl) (by omega) (by omega)
                    obtain rfl : 10 = m := by omega
                    refine ab_aload_n hX dX12_again_86 mm0 ?_
                    refine ab_aload_n hX dX12_again_87 mm1 ?_
                    refine ab_bipush (v := 31) hX dX12_again_88 (by decide) ?_
                    refine ab_iald (i := 31) hX dX12_again_90 (mg_17 hA) rfl (by decide) (by decide) ?_
                    refine ab_putfield hX dX12_again_91 ps_X12_again_94_13 (mg_o hA) (Nat.le_of_ble_eq_true rfl) rfl rfl (mx_1 hA) ?_
                    refine ab_aload_n hX dX12_again_94 mm0 ?_
                    refine ab_aload_n hX dX12_again_95 mm1 ?_
                    refine ab_bipush (v := 32) hX dX12_again_96 (by decide) ?_
                    refine ab_iald (i := 32) hX dX12_again_98 (mg_17 hA) rfl (by decide) (by decide) ?_
                    refine ab_putfield hX dX12_again_99 ps_X12_again_47_13 (mg_o hA) (Nat.le_of_ble_eq_true rfl) rfl rfl (mx_3 hA) ?_
                    refine ab_aload_n hX dX12_again_102 mm0 ?_
                    refine ab_aload_n hX dX12_again_103 mm1 ?_
                    refine ab_bipush (v := 33) hX dX12_again_104 (by decide) ?_
                    refine ab_iald (i := 33) hX dX12_again_106 (mg_17 hA) rfl (by decide) (by decide) ?_
                    refine ab_putfield hX dX12_again_107 ps_X12_again_51_13 (mg_o hA) (Nat.le_of_ble_eq_true rfl) rfl rfl (mx_5 hA) ?_
                    refine ab_aload_n hX dX12_again_110 mm0 ?_
                    refine ab_aload_n hX dX12_again_111 mm1 ?_
                    refine ab_bipush (v := 34) hX dX12_again_112 (by decide) ?_
                    refine ab_iald (i := 34) hX dX12_again_114 (mg_17 hA) rfl (by decide) (by decide) ?_
                    refine ab_putfield hX dX12_again_115 ps_X12_again_61_13 (mg_o hA) (Nat.le_of_ble_eq_true rfl) rfl rfl (mx_0 hA) ?_
                    exact ab_vreturn hX hF dX12_again_118 rfl rfl (by rfl)
                  ·
                    have hltm_ := ctL (N := 10) h_3 (by rfl) (by omega) (by omega)
                    refine ab_aload_n hX dX12_again_56 mm0 ?_
                    refine ab_getfield hX dX12_again_57 (fs_X12_16_13 rfl) (mg_o hA) rfl ?_
                    refine ab_iload_n hX dX12_again_60 mm2 ?_
                    refine ab_aload_n hX dX12_again_61 mm1 ?_
                    refine ab_bipush (v := 11) hX dX12_again_62 (by decide) ?_
                    refine ab_iload_n hX dX12_again_64 mm2 ?_
                    refine ab_iadd hX dX12_again_65 ?_
                    refine ab_iald (i := (11 + m)) hX dX12_again_66 (mg_17 hA) (nI_add 11 m) (by omega) (by decide) ?_
                    refine ab_iast (i := m) hX dX12_again_67 (mg_6 hA) rfl (by omega) (by decide) (mx_6 hA) ?_
                    refine ab_aload_n hX dX12_again_68 mm0 ?_
                    refine ab_getfield hX dX12_again_69 (fs_X12_19_13 rfl) (mg_o hA) rfl ?_
                    refine ab_iload_n hX dX12_again_72 mm2 ?_
                    refine ab_aload_n hX dX12_again_73 mm1 ?_
                    refine ab_bipush (v := 21) hX dX12_again_74 (by decide) ?_
                    refine ab_iload_n hX dX12_again_76 mm2 ?_
                    refine ab_iadd hX dX12_again_77 ?_
                    refine ab_iald (i := (21 + m)) hX dX12_again_78 (mg_17 hA) (nI_add 21 m) (by omega) (by decide) ?_
                    refine ab_iast (i := m) hX dX12_again_79 (mg_7 hA) rfl (by omega) (by decide) (mx_7 hA) ?_
                    refine ab_iinc hX dX12_again_80 mm2 rfl (by decide) rfl ?_
                    refine ab_goto (tgt := 50) hX dX12_again_83 (by decide) ?_
                    exact ab_pm3 mm1 mm2 (mmv0 (congrArg Value.int (by first | rfl | exact (nI_1 _).symm))) (ih50 (_) (by omega) (m + 1) (by omega) rfl)
              exact ab_pm3 mm1 mm2 (mmv0 (congrArg Value.int (by rfl))) (L50 _ 0 (by omega) rfl)
            ·
              have hltj_ := ctL (N := 5) h_2 (by rfl) (by omega) (by omega)
              refine ab_aload_n hX dX12_again_30 mm0 ?_
              refine ab_getfield hX dX12_again_31 (fs_X12_13_13 rfl) (mg_o hA) rfl ?_
              refine ab_iload_n hX dX12_again_34 mm2 ?_
              refine ab_aload_n hX dX12_again_35 mm1 ?_
              refine ab_bipush (v := 6) hX dX12_again_36 (by decide) ?_
              refine ab_iload_n hX dX12_again_38 mm2 ?_
              refine ab_iadd hX dX12_again_39 ?_
              refine ab_iald (i := (6 + j)) hX dX12_again_40 (mg_17 hA) (nI_add 6 j) (by omega) (by decide) ?_
              refine ab_iast (i := j) hX dX12_again_41 (mg_4 hA) rfl (by omega) (by decide) (mx_4 hA) ?_
              refine ab_iinc hX dX12_again_42 mm2 rfl (by decide) rfl ?_
              refine ab_goto (tgt := 25) hX dX12_again_45 (by decide) ?_
              exact ab_pm3 mm1 mm2 (mmv0 (congrArg Value.int (by first | rfl | exact (nI_1 _).symm))) (ih25 (_) (by omega) (j + 1) (by omega) rfl)
        exact ab_pm3 mm1 mm2 (mmv0 (congrArg Value.int (by rfl))) (L25 _ 0 (by omega) rfl)
      ·
        have hlti_ := ctL (N := 6) h_1 (by rfl) (by omega) (by omega)
        refine ab_aload_n hX dX12_again_8 mm0 ?_
        refine ab_getfield hX dX12_again_9 (fs_X12_7_13 rfl) (mg_o hA) rfl ?_
        refine ab_iload_n hX dX12_again_12 mm2 ?_
        refine ab_aload_n hX dX12_again_13 mm1 ?_
        refine ab_iload_n hX dX12_again_14 mm2 ?_
        refine ab_iald (i := i) hX dX12_again_15 (mg_17 hA) rfl (by omega) (by decide) ?_
        refine ab_iast (i := i) hX dX12_again_16 (mg_2 hA) rfl (by omega) (by decide) (mx_2 hA) ?_
        refine ab_iinc hX dX12_again_17 mm2 rfl (by decide) rfl ?_
        refine ab_goto (tgt := 2) hX dX12_again_20 (by decide) ?_
        exact ab_pm3 mm1 mm2 (mmv0 (congrArg Value.int (by first | rfl | exact (nI_1 _).symm))) (ih2 (_) (by omega) (i + 1) (by omega) rfl)
  exact ab_pm3 mm1 mm2 (mmv0 (congrArg Value.int (by rfl))) (L2 _ 0 (by omega) rfl)
theorem cm_X12_image {G : ab_G} (hG : ab_GG G) {A : List ab_E} {s : MS} {B : List ab_E} (hA : A.length = 42)   : ab_CM G mX12_image [.ref 42] (mH A s B) (some (.int (s.1 5))) (mH A (imS s) B) := by
  refine ab_meth (l0 := [(0, .ref 42)]) hG (by decide +kernel) rfl (Nat.le_of_ble_eq_true rfl) mH_lenE mH_szE (fun X hX hF => ?_)
  refine ab_aload_n hX dX12_image_0 mm0 ?_
  refine ab_iconst (v := 1) hX dX12_image_1 (by decide) ?_
  refine ab_putfield hX dX12_image_2 ps_X12_image_236_13 (mg_o hA) (Nat.le_of_ble_eq_true rfl) rfl rfl (mx_15 hA) ?_
  refine ab_aload_n hX dX12_image_5 mm0 ?_
  refine ab_aload_n hX dX12_image_6 mm0 ?_
  refine ab_getfield hX dX12_image_7 (fs_X12_37_13 rfl) (mg_o hA) rfl ?_
  refine ab_callV1v hX dX12_image_10 (mg_o hA) ss_X12_image_114 (cm_X12_keep_old hG hA) (Nat.le_of_ble_eq_true rfl) ?_
  refine ab_aload_n hX dX12_image_13 mm0 ?_
  refine ab_getfield hX dX12_image_14 (fs_X12_51_13 rfl) (mg_o hA) rfl ?_
  exact ab_ireturn hX hF dX12_image_17 rfl (by rfl) (congrArg some (congrArg Value.int (by rfl))) (by rfl)
theorem cm_X12_restore {G : ab_G} (hG : ab_GG G) {A : List ab_E} {s : MS} {B : List ab_E} (hA : A.length = 42)   : ab_CM G mX12_restore [.ref 42] (mH A s B) (some (.int (reM s))) (mH A (reS s) B) := by
  refine ab_meth (l0 := [(0, .ref 42)]) hG (by decide +kernel) rfl (Nat.le_of_ble_eq_true rfl) mH_lenE mH_szE (fun X hX hF => ?_)
  refine ab_aload_n hX dX12_restore_0 mm0 ?_
  refine ab_getfield hX dX12_restore_1 (fs_X12_236_13 rfl) (mg_o hA) rfl ?_
  refine ab_ifne (tgt := 10) hX dX12_restore_4 (by decide) (fun h_1 => ?_) (fun h_1 => ?_)
  ·
    refine ab_aload_n hX dX12_restore_10 mm0 ?_
    refine ab_aload_n hX dX12_restore_11 mm0 ?_
    refine ab_getfield hX dX12_restore_12 (fs_X12_37_13 rfl) (mg_o hA) rfl ?_
    refine ab_callV1v hX dX12_restore_15 (mg_o hA) ss_X12_restore_118 (cm_X12_again_old hG hA) (Nat.le_of_ble_eq_true rfl) ?_
    refine ab_aload_n hX dX12_restore_18 mm0 ?_
    refine ab_getfield hX dX12_restore_19 (fs_X12_51_13 rfl) (mg_o hA) rfl ?_
    exact ab_ireturn hX hF dX12_restore_22 rfl (by rfl) (congrArg some (congrArg Value.int (by first | rfl | (simp only [reM, h_1, ↓reduceIte, Bool.false_eq_true]; done) | (simp only [reM, h_1, ↓reduceIte, Bool.false_eq_true]; rfl) | (unfold reM; (repeat' split) <;> first | rfl | contradiction | (simp_all; done))))) (by first | rfl | (simp only [reS, h_1, ↓reduceIte, Bool.false_eq_true]; done) | (simp only [reS, h_1, ↓reduceIte, Bool.false_eq_true]; rfl))
  ·
    refine ab_bipush (v := (-3)) hX dX12_restore_7 (by decide) ?_
    exact ab_ireturn hX hF dX12_restore_9 rfl (by rfl) (congrArg some (congrArg Value.int (by first | rfl | (simp only [reM, h_1, ↓reduceIte, Bool.false_eq_true]; done) | (simp only [reM, h_1, ↓reduceIte, Bool.false_eq_true]; rfl) | (unfold reM; (repeat' split) <;> first | rfl | contradiction | (simp_all; done))))) (by first | rfl | (simp only [reS, h_1, ↓reduceIte, Bool.false_eq_true]; done) | (simp only [reS, h_1, ↓reduceIte, Bool.false_eq_true]; rfl))
theorem cm_X12_keep_ {G : ab_G} (hG : ab_GG G) {A : List ab_E} {s : MS} {B : List ab_E} (hA : A.length = 42) {d : Int32} {what : Int32} {k : Int32} {f : Int32}  : ab_CM G mX12_keep_ [.ref 42, .int d, .int what, .int k, .int f] (mH A s B) (some (.int (keM d what k f))) (mH A (keS s d what k f) B) := by
  refine ab_meth (l0 := [(0, .ref 42), (1, .int d), (2, .int what), (3, .int k), (4, .int f)]) hG (by decide +kernel) rfl (Nat.le_of_ble_eq_true rfl) mH_lenE mH_szE (fun X hX hF => ?_)
  refine ab_iload_n hX dX12_keep__0 mm1 ?_
  refine ab_callS1r hX dX12_keep__1 ss_X12_keep__107 (cm_X12_isShelf hG) (Nat.le_of_ble_eq_true rfl) ?_
  refine ab_ifeqB (tgt := 16) hX dX12_keep__4 (by decide) (fun h_1 => ?_) (fun h_1 => ?_)
  ·
    refine ab_iconst (v := (-1)) hX dX12_keep__16 (by decide) ?_
    exact ab_ireturn hX hF dX12_keep__17 rfl (by rfl) (congrArg some (congrArg Value.int (by first | rfl | (simp only [keM, h_1, ↓reduceIte, Bool.false_eq_true]; done) | (simp only [keM, h_1, ↓reduceIte, Bool.false_eq_true]; rfl) | (unfold keM; (repeat' split) <;> first | rfl | contradiction | (simp_all; done))))) (by first | rfl | (simp only [keS, h_1, ↓reduceIte, Bool.false_eq_true]; done) | (simp only [keS, h_1, ↓reduceIte, Bool.false_eq_true]; rfl))
  ·
    obtain ⟨j, hj, rfl⟩ := iw8 h_1
    have hjc := tn_nI (j := j) (by omega)
    refine ab_iload_n hX dX12_keep__7 mm2 ?_
    refine ab_iconst (v := 0) hX dX12_keep__8 (by decide) ?_
    refine ab_iconst (v := 1) hX dX12_keep__9 (by decide) ?_
    refine ab_callS3r hX dX12_keep__10 ss_X12_keep__43 (cm_X12_within hG) (Nat.le_of_ble_eq_true rfl) ?_
    refine ab_ifneB (tgt := 18) hX dX12_keep__13 (by decide) (fun h_2 => ?_) (fun h_2 => ?_)
    ·
      refine ab_iload_n hX dX12_keep__18 mm2 ?_
      refine ab_iconst (v := 1) hX dX12_keep__19 (by decide) ?_
      refine ab_icmpne (tgt := 46) hX dX12_keep__20 (by decide) (fun h_3 => ?_) (fun h_3 => ?_)
      ·
        refine ab_aload_n hX dX12_keep__46 mm0 ?_
        refine ab_getfield hX dX12_keep__47 (fs_X12_22_13 rfl) (mg_o hA) rfl ?_
        refine ab_iload_n hX dX12_keep__50 mm1 ?_
        refine ab_iload_n hX dX12_keep__51 mm2 ?_
        refine ab_iast (i := j) hX dX12_keep__52 (mg_8 hA) rfl hj (by decide) (mx_8 hA) ?_
        refine ab_aload_n hX dX12_keep__53 mm0 ?_
        refine ab_getfield hX dX12_keep__54 (fs_X12_25_13 rfl) (mg_o hA) rfl ?_
        refine ab_iload_n hX dX12_keep__57 mm1 ?_
        refine ab_iload_n hX dX12_keep__58 mm2 ?_
        refine ab_iconst (v := 1) hX dX12_keep__59 (by decide) ?_
        refine ab_icmpne (tgt := 67) hX dX12_keep__60 (by decide) (fun h_4 => ?_) (fun h_4 => (by contradiction))
        refine ab_iconst (v := 0) hX dX12_keep__67 (by decide) ?_
        refine ab_iast (i := j) hX dX12_keep__68 (mg_9 hA) rfl hj (by decide) (mx_9 hA) ?_
        refine ab_aload_n hX dX12_keep__69 mm0 ?_
        refine ab_getfield hX dX12_keep__70 (fs_X12_28_13 rfl) (mg_o hA) rfl ?_
        refine ab_iload_n hX dX12_keep__73 mm1 ?_
        refine ab_iload_n hX dX12_keep__74 mm2 ?_
        refine ab_iconst (v := 1) hX dX12_keep__75 (by decide) ?_
        refine ab_icmpne (tgt := 84) hX dX12_keep__76 (by decide) (fun h_5 => ?_) (fun h_5 => (by contradiction))
        refine ab_iconst (v := 0) hX dX12_keep__84 (by decide) ?_
        refine ab_iast (i := j) hX dX12_keep__85 (mg_10 hA) rfl hj (by decide) (mx_10 hA) ?_
        refine ab_iconst (v := 0) hX dX12_keep__86 (by decide) ?_
        exact ab_ireturn hX hF dX12_keep__87 rfl (by rfl) (congrArg some (congrArg Value.int (by first | rfl | (simp only [keM, h_1, hjc, h_2, h_3, ↓reduceIte, Bool.false_eq_true]; done) | (simp only [keM, h_1, hjc, h_2, h_3, ↓reduceIte, Bool.false_eq_true]; rfl) | (unfold keM; (repeat' split) <;> first | rfl | contradiction | (simp_all; done))))) (by first | rfl | (simp only [keS, h_1, hjc, h_2, h_3, ↓reduceIte, Bool.false_eq_true]; done) | (simp only [keS, h_1, hjc, h_2, h_3, ↓reduceIte, Bool.false_eq_true]; rfl))
      ·
        refine ab_iload_n hX dX12_keep__23 mm3 ?_
        refine ab_iconst (v := 0) hX dX12_keep__24 (by decide) ?_
        refine ab_bipush (v := 7) hX dX12_keep__25 (by decide) ?_
        refine ab_callS3r hX dX12_keep__27 ss_X12_keep__43 (cm_X12_within hG) (Nat.le_of_ble_eq_true rfl) ?_
        refine ab_ifeqB (tgt := 44) hX dX12_keep__30 (by decide) (fun h_6 => ?_) (fun h_6 => ?_)
        ·
          refine ab_iconst (v := (-1)) hX dX12_keep__44 (by decide) ?_
          exact ab_ireturn hX hF dX12_keep__45 rfl (by rfl) (congrArg some (congrArg Value.int (by first | rfl | (simp only [keM, h_1, hjc, h_2, h_3, h_6, ↓reduceIte, Bool.false_eq_true]; done) | (simp only [keM, h_1, hjc, h_2, h_3, h_6, ↓reduceIte, Bool.false_eq_true]; rfl) | (unfold keM; (repeat' split) <;> first | rfl | contradiction | (simp_all; done))))) (by first | rfl | (simp only [keS, h_1, hjc, h_2, h_3, h_6, ↓reduceIte, Bool.false_eq_true]; done) | (simp only [keS, h_1, hjc, h_2, h_3, h_6, ↓reduceIte, Bool.false_eq_true]; rfl))
        ·
          refine ab_iload hX dX12_keep__33 mm4 ?_
          refine ab_iconst (v := 0) hX dX12_keep__35 (by decide) ?_
          refine ab_bipush (v := 9) hX dX12_keep__36 (by decide) ?_
          refine ab_callS3r hX dX12_keep__38 ss_X12_keep__43 (cm_X12_within hG) (Nat.le_of_ble_eq_true rfl) ?_
          refine ab_ifneB (tgt := 46) hX dX12_keep__41 (by decide) (fun h_7 => ?_) (fun h_7 => ?_)
          ·
            refine ab_aload_n hX dX12_keep__46 mm0 ?_
            refine ab_getfield hX dX12_keep__47 (fs_X12_22_13 rfl) (mg_o hA) rfl ?_
            refine ab_iload_n hX dX12_keep__50 mm1 ?_
            refine ab_iload_n hX dX12_keep__51 mm2 ?_
            refine ab_iast (i := j) hX dX12_keep__52 (mg_8 hA) rfl hj (by decide) (mx_8 hA) ?_
            refine ab_aload_n hX dX12_keep__53 mm0 ?_
            refine ab_getfield hX dX12_keep__54 (fs_X12_25_13 rfl) (mg_o hA) rfl ?_
            refine ab_iload_n hX dX12_keep__57 mm1 ?_
            refine ab_iload_n hX dX12_keep__58 mm2 ?_
            refine ab_iconst (v := 1) hX dX12_keep__59 (by decide) ?_
            refine ab_icmpne (tgt := 67) hX dX12_keep__60 (by decide) (fun h_8 => (by contradiction)) (fun h_8 => ?_)
            refine ab_iload_n hX dX12_keep__63 mm3 ?_
            refine ab_goto (tgt := 68) hX dX12_keep__64 (by decide) ?_
            refine ab_iast (i := j) hX dX12_keep__68 (mg_9 hA) rfl hj (by decide) (mx_9 hA) ?_
            refine ab_aload_n hX dX12_keep__69 mm0 ?_
            refine ab_getfield hX dX12_keep__70 (fs_X12_28_13 rfl) (mg_o hA) rfl ?_
            refine ab_iload_n hX dX12_keep__73 mm1 ?_
            refine ab_iload_n hX dX12_keep__74 mm2 ?_
            refine ab_iconst (v := 1) hX dX12_keep__75 (by decide) ?_
            refine ab_icmpne (tgt := 84) hX dX12_keep__76 (by decide) (fun h_9 => (by contradiction)) (fun h_9 => ?_)
            refine ab_iload hX dX12_keep__79 mm4 ?_
            refine ab_goto (tgt := 85) hX dX12_keep__81 (by decide) ?_
            refine ab_iast (i := j) hX dX12_keep__85 (mg_10 hA) rfl hj (by decide) (mx_10 hA) ?_
            refine ab_iconst (v := 0) hX dX12_keep__86 (by decide) ?_
            exact ab_ireturn hX hF dX12_keep__87 rfl (by rfl) (congrArg some (congrArg Value.int (by first | rfl | (simp only [keM, h_1, hjc, h_2, h_3, h_6, h_7, ↓reduceIte, Bool.false_eq_true]; done) | (simp only [keM, h_1, hjc, h_2, h_3, h_6, h_7, ↓reduceIte, Bool.false_eq_true]; rfl) | (unfold keM; (repeat' split) <;> first | rfl | contradiction | (simp_all; done))))) (by first | rfl | (simp only [keS, h_1, hjc, h_2, h_3, h_6, h_7, ↓reduceIte, Bool.false_eq_true]; done) | (simp only [keS, h_1, hjc, h_2, h_3, h_6, h_7, ↓reduceIte, Bool.false_eq_true]; rfl))
          ·
            refine ab_iconst (v := (-1)) hX dX12_keep__44 (by decide) ?_
            exact ab_ireturn hX hF dX12_keep__45 rfl (by rfl) (congrArg some (congrArg Value.int (by first | rfl | (simp only [keM, h_1, hjc, h_2, h_3, h_6, h_7, ↓reduceIte, Bool.false_eq_true]; done) | (simp only [keM, h_1, hjc, h_2, h_3, h_6, h_7, ↓reduceIte, Bool.false_eq_true]; rfl) | (unfold keM; (repeat' split) <;> first | rfl | contradiction | (simp_all; done))))) (by first | rfl | (simp only [keS, h_1, hjc, h_2, h_3, h_6, h_7, ↓reduceIte, Bool.false_eq_true]; done) | (simp only [keS, h_1, hjc, h_2, h_3, h_6, h_7, ↓reduceIte, Bool.false_eq_true]; rfl))
    ·
      refine ab_iconst (v := (-1)) hX dX12_keep__16 (by decide) ?_
      exact ab_ireturn hX hF dX12_keep__17 rfl (by rfl) (congrArg some (congrArg Value.int (by first | rfl | (simp only [keM, h_1, hjc, h_2, ↓reduceIte, Bool.false_eq_true]; done) | (simp only [keM, h_1, hjc, h_2, ↓reduceIte, Bool.false_eq_true]; rfl) | (unfold keM; (repeat' split) <;> first | rfl | contradiction | (simp_all; done))))) (by first | rfl | (simp only [keS, h_1, hjc, h_2, ↓reduceIte, Bool.false_eq_true]; done) | (simp only [keS, h_1, hjc, h_2, ↓reduceIte, Bool.false_eq_true]; rfl))
theorem cm_X12_row {G : ab_G} (hG : ab_GG G) {A : List ab_E} {s : MS} {B : List ab_E} (hA : A.length = 42) {d : Int32} {sort : Int32} {n : Int32}  : ab_CM G mX12_row [.ref 42, .int d, .int sort, .int n] (mH A s B) (some (.int (roM d sort n))) (mH A (roS s d sort n) B) := by
  refine ab_meth (l0 := [(0, .ref 42), (1, .int d), (2, .int sort), (3, .int n)]) hG (by decide +kernel) rfl (Nat.le_of_ble_eq_true rfl) mH_lenE mH_szE (fun X hX hF => ?_)
  refine ab_iload_n hX dX12_row_0 mm1 ?_
  refine ab_callS1r hX dX12_row_1 ss_X12_row_107 (cm_X12_isShelf hG) (Nat.le_of_ble_eq_true rfl) ?_
  refine ab_ifeqB (tgt := 22) hX dX12_row_4 (by decide) (fun h_1 => ?_) (fun h_1 => ?_)
  ·
    refine ab_iconst (v := (-1)) hX dX12_row_22 (by decide) ?_
    exact ab_ireturn hX hF dX12_row_23 rfl (by rfl) (congrArg some (congrArg Value.int (by first | rfl | (simp only [roM, h_1, ↓reduceIte, Bool.false_eq_true]; done) | (simp only [roM, h_1, ↓reduceIte, Bool.false_eq_true]; rfl) | (unfold roM; (repeat' split) <;> first | rfl | contradiction | (simp_all; done))))) (by first | rfl | (simp only [roS, h_1, ↓reduceIte, Bool.false_eq_true]; done) | (simp only [roS, h_1, ↓reduceIte, Bool.false_eq_true]; rfl))
  ·
    obtain ⟨j, hj, rfl⟩ := iw8 h_1
    have hjc := tn_nI (j := j) (by omega)
    refine ab_iload_n hX dX12_row_7 mm2 ?_
    refine ab_iconst (v := 0) hX dX12_row_8 (by decide) ?_
    refine ab_iconst (v := 2) hX dX12_row_9 (by decide) ?_
    refine ab_callS3r hX dX12_row_10 ss_X12_row_43 (cm_X12_within hG) (Nat.le_of_ble_eq_true rfl) ?_
    refine ab_ifeqB (tgt := 22) hX dX12_row_13 (by decide) (fun h_2 => ?_) (fun h_2 => ?_)
    ·
      refine ab_iconst (v := (-1)) hX dX12_row_22 (by decide) ?_
      exact ab_ireturn hX hF dX12_row_23 rfl (by rfl) (congrArg some (congrArg Value.int (by first | rfl | (simp only [roM, h_1, hjc, h_2, ↓reduceIte, Bool.false_eq_true]; done) | (simp only [roM, h_1, hjc, h_2, ↓reduceIte, Bool.false_eq_true]; rfl) | (unfold roM; (repeat' split) <;> first | rfl | contradiction | (simp_all; done))))) (by first | rfl | (simp only [roS, h_1, hjc, h_2, ↓reduceIte, Bool.false_eq_true]; done) | (simp only [roS, h_1, hjc, h_2, ↓reduceIte, Bool.false_eq_true]; rfl))
    ·
      refine ab_iload_n hX dX12_row_16 mm3 ?_
      refine ab_bipush (v := 100) hX dX12_row_17 (by decide) ?_
      refine ab_icmple (tgt := 24) hX dX12_row_19 (by decide) (fun h_3 => ?_) (fun h_3 => ?_)
      ·
        refine ab_iload_n hX dX12_row_24 mm3 ?_
        refine ab_ifge (tgt := 31) hX dX12_row_25 (by decide) (fun h_4 => ?_) (fun h_4 => ?_)
        ·
          refine ab_aload_n hX dX12_row_31 mm0 ?_
          refine ab_getfield hX dX12_row_32 (fs_X12_22_13 rfl) (mg_o hA) rfl ?_
          refine ab_iload_n hX dX12_row_35 mm1 ?_
          refine ab_iconst (v := 2) hX dX12_row_36 (by decide) ?_
          refine ab_iast (i := j) hX dX12_row_37 (mg_8 hA) rfl hj (by decide) (mx_8 hA) ?_
          refine ab_aload_n hX dX12_row_38 mm0 ?_
          refine ab_getfield hX dX12_row_39 (fs_X12_25_13 rfl) (mg_o hA) rfl ?_
          refine ab_iload_n hX dX12_row_42 mm1 ?_
          refine ab_iload_n hX dX12_row_43 mm2 ?_
          refine ab_iast (i := j) hX dX12_row_44 (mg_9 hA) rfl hj (by decide) (mx_9 hA) ?_
          refine ab_aload_n hX dX12_row_45 mm0 ?_
          refine ab_getfield hX dX12_row_46 (fs_X12_28_13 rfl) (mg_o hA) rfl ?_
          refine ab_iload_n hX dX12_row_49 mm1 ?_
          refine ab_iload_n hX dX12_row_50 mm3 ?_
          refine ab_iast (i := j) hX dX12_row_51 (mg_10 hA) rfl hj (by decide) (mx_10 hA) ?_
          refine ab_iconst (v := 0) hX dX12_row_52 (by decide) ?_
          refine ab_istore hX dX12_row_53 (by decide) rfl ?_
          have L55 : ∀ (k55_ : Nat) (i : Nat) (hi_ : i ≤ 100), k55_ = 100 - i → ab_WA G mX12_row X 55 [(0, .ref 42), (1, .int (nI j)), (2, .int sort), (3, .int n), (4, .int (nI i))] [] (mH A (acc (roF j) (mu2 (mu2 (mu2 s 8 j 2) 9 j sort) 10 j n) i) B) := by
            intro k55_
            induction k55_ using Nat.strongRecOn with
            | _ k55_ ih55 =>
              intro i hi_ hk55_
              refine ab_iload hX dX12_row_55 mm4 ?_
              refine ab_bipush (v := 100) hX dX12_row_57 (by decide) ?_
              refine ab_icmpge (tgt := 81) hX dX12_row_59 (by decide) (fun h_5 => ?_) (fun h_5 => ?_)
              ·
                have hx_ := ctE (N := 100) h_5 (by rfl) (by omega) (by omega)
                obtain rfl : 100 = i := by omega
                refine ab_iconst (v := 0) hX dX12_row_81 (by decide) ?_
                exact ab_ireturn hX hF dX12_row_82 rfl (by rfl) (congrArg some (congrArg Value.int (by first | rfl | (simp only [roM, h_1, hjc, h_2, h_3, h_4, h_5, ↓reduceIte, Bool.false_eq_true]; done) | (simp only [roM, h_1, hjc, h_2, h_3, h_4, h_5, ↓reduceIte, Bool.false_eq_true]; rfl) | (unfold roM; (repeat' split) <;> first | rfl | contradiction | (simp_all; done))))) (by first | rfl | (simp only [roS, h_1, hjc, h_2, h_3, h_4, h_5, ↓reduceIte, Bool.false_eq_true]; done) | (simp only [roS, h_1, hjc, h_2, h_3, h_4, h_5, ↓reduceIte, Bool.false_eq_true]; rfl))
              ·
                have hlti_ := ctL (N := 100) h_5 (by rfl) (by omega) (by omega)
                refine ab_aload_n hX dX12_row_62 mm0 ?_
                refine ab_getfield hX dX12_row_63 (fs_X12_31_13 rfl) (mg_o hA) rfl ?_
                refine ab_bipush (v := 100) hX dX12_row_66 (by decide) ?_
                refine ab_iload_n hX dX12_row_68 mm1 ?_
                refine ab_imul hX dX12_row_69 ?_
                refine ab_iload hX dX12_row_70 mm4 ?_
                refine ab_iadd hX dX12_row_72 ?_
                refine ab_iconst (v := 0) hX dX12_row_73 (by decide) ?_
                refine ab_iast (i := (100 * j + i)) hX dX12_row_74 (mg_11 hA) (ix100 j i) (by omega) (by decide) (mx_11 hA) ?_
                refine ab_iinc hX dX12_row_75 mm4 rfl (by decide) rfl ?_
                refine ab_goto (tgt := 55) hX dX12_row_78 (by decide) ?_
                exact ab_pm5 mm1 (mmv2 (congrArg Value.int (by first | rfl | exact (nI_1 _).symm))) (mmv3 (congrArg Value.int (by first | rfl | exact (nI_1 _).symm))) (mmv4 (congrArg Value.int (by first | rfl | exact (nI_1 _).symm))) (mmv0 (congrArg Value.int (by first | rfl | exact (nI_1 _).symm))) (ih55 (_) (by omega) (i + 1) (by omega) rfl)
          exact ab_pm5 mm1 (mmv2 (congrArg Value.int (by rfl))) (mmv3 (congrArg Value.int (by rfl))) (mmv4 (congrArg Value.int (by rfl))) (mmv0 (congrArg Value.int (by rfl))) (L55 _ 0 (by omega) rfl)
        ·
          refine ab_bipush (v := (-14)) hX dX12_row_28 (by decide) ?_
          exact ab_ireturn hX hF dX12_row_30 rfl (by rfl) (congrArg some (congrArg Value.int (by first | rfl | (simp only [roM, h_1, hjc, h_2, h_3, h_4, ↓reduceIte, Bool.false_eq_true]; done) | (simp only [roM, h_1, hjc, h_2, h_3, h_4, ↓reduceIte, Bool.false_eq_true]; rfl) | (unfold roM; (repeat' split) <;> first | rfl | contradiction | (simp_all; done))))) (by first | rfl | (simp only [roS, h_1, hjc, h_2, h_3, h_4, ↓reduceIte, Bool.false_eq_true]; done) | (simp only [roS, h_1, hjc, h_2, h_3, h_4, ↓reduceIte, Bool.false_eq_true]; rfl))
      ·
        refine ab_iconst (v := (-1)) hX dX12_row_22 (by decide) ?_
        exact ab_ireturn hX hF dX12_row_23 rfl (by rfl) (congrArg some (congrArg Value.int (by first | rfl | (simp only [roM, h_1, hjc, h_2, h_3, ↓reduceIte, Bool.false_eq_true]; done) | (simp only [roM, h_1, hjc, h_2, h_3, ↓reduceIte, Bool.false_eq_true]; rfl) | (unfold roM; (repeat' split) <;> first | rfl | contradiction | (simp_all; done))))) (by first | rfl | (simp only [roS, h_1, hjc, h_2, h_3, ↓reduceIte, Bool.false_eq_true]; done) | (simp only [roS, h_1, hjc, h_2, h_3, ↓reduceIte, Bool.false_eq_true]; rfl))
theorem cm_X12_put {G : ab_G} (hG : ab_GG G) {A : List ab_E} {s : MS} {B : List ab_E} (hA : A.length = 42) {d : Int32} {i : Int32} {v : Int32} (hSh : shI s) : ab_CM G mX12_put [.ref 42, .int d, .int i, .int v] (mH A s B) (some (.int (puM s d i))) (mH A (puS s d i v) B) := by
  refine ab_meth (l0 := [(0, .ref 42), (1, .int d), (2, .int i), (3, .int v)]) hG (by decide +kernel) rfl (Nat.le_of_ble_eq_true rfl) mH_lenE mH_szE (fun X hX hF => ?_)
  refine ab_iload_n hX dX12_put_0 mm1 ?_
  refine ab_callS1r hX dX12_put_1 ss_X12_put_107 (cm_X12_isShelf hG) (Nat.le_of_ble_eq_true rfl) ?_
  refine ab_ifneB (tgt := 9) hX dX12_put_4 (by decide) (fun h_1 => ?_) (fun h_1 => ?_)
  ·
    obtain ⟨j, hj, rfl⟩ := iw8 h_1
    have hjc := tn_nI (j := j) (by omega)
    refine ab_aload_n hX dX12_put_9 mm0 ?_
    refine ab_iload_n hX dX12_put_10 mm1 ?_
    refine ab_callV1r hX dX12_put_11 (mg_o hA) ss_X12_put_223 (cm_X12_noRow hG hA rfl hj) (Nat.le_of_ble_eq_true rfl) ?_
    refine ab_istore hX dX12_put_14 (by decide) rfl ?_
    refine ab_iload hX dX12_put_16 mm0 ?_
    refine ab_ifge (tgt := 24) hX dX12_put_18 (by decide) (fun h_2 => ?_) (fun h_2 => ?_)
    ·
      obtain ⟨n, hn, hsec⟩ := noR_row hSh hj h_2
      refine ab_iload_n hX dX12_put_24 mm3 ?_
      refine ab_iconst (v := 0) hX dX12_put_25 (by decide) ?_
      refine ab_aload_n hX dX12_put_26 mm1 ?_
      refine ab_getfield hX dX12_put_27 (fs_X12_28_13 rfl) (mg_o hA) rfl ?_
      refine ab_iload_n hX dX12_put_30 mm2 ?_
      refine ab_iald (i := j) hX dX12_put_31 (mg_10 hA) rfl hj (by decide) ?_
      refine ab_iconst (v := 1) hX dX12_put_32 (by decide) ?_
      refine ab_isub hX dX12_put_33 ?_
      refine ab_callS3r hX dX12_put_34 ss_X12_put_43 (cm_X12_within hG) (Nat.le_of_ble_eq_true rfl) ?_
      refine ab_ifneB (tgt := 43) hX dX12_put_37 (by decide) (fun h_3 => ?_) (fun h_3 => ?_)
      ·
        rw [hsec] at h_3
        obtain ⟨i0, hi0, rfl⟩ := iw100 (n := n) rfl hn h_3
        rw [← hsec] at h_3
        have hi0c := tn_nI (j := i0) (by omega)
        refine ab_aload_n hX dX12_put_43 mm1 ?_
        refine ab_getfield hX dX12_put_44 (fs_X12_31_13 rfl) (mg_o hA) rfl ?_
        refine ab_bipush (v := 100) hX dX12_put_47 (by decide) ?_
        refine ab_iload_n hX dX12_put_49 mm2 ?_
        refine ab_imul hX dX12_put_50 ?_
        refine ab_iload_n hX dX12_put_51 mm3 ?_
        refine ab_iadd hX dX12_put_52 ?_
        refine ab_aload_n hX dX12_put_53 mm1 ?_
        refine ab_getfield hX dX12_put_54 (fs_X12_25_13 rfl) (mg_o hA) rfl ?_
        refine ab_iload_n hX dX12_put_57 mm2 ?_
        refine ab_iald (i := j) hX dX12_put_58 (mg_9 hA) rfl hj (by decide) ?_
        refine ab_ifne (tgt := 67) hX dX12_put_59 (by decide) (fun h_4 => ?_) (fun h_4 => ?_)
        ·
          refine ab_aload_n hX dX12_put_67 mm1 ?_
          refine ab_getfield hX dX12_put_68 (fs_X12_25_13 rfl) (mg_o hA) rfl ?_
          refine ab_iload_n hX dX12_put_71 mm2 ?_
          refine ab_iald (i := j) hX dX12_put_72 (mg_9 hA) rfl hj (by decide) ?_
          refine ab_iconst (v := 1) hX dX12_put_73 (by decide) ?_
          refine ab_icmpne (tgt := 82) hX dX12_put_74 (by decide) (fun h_5 => ?_) (fun h_5 => ?_)
          ·
            refine ab_iload_n hX dX12_put_82 mm4 ?_
            refine ab_iast (i := (100 * j + i0)) hX dX12_put_83 (mg_11 hA) (ix100 j i0) (by omega) (by decide) (mx_11 hA) ?_
            refine ab_iconst (v := 0) hX dX12_put_84 (by decide) ?_
            exact ab_ireturn hX hF dX12_put_85 rfl (by rfl) (congrArg some (congrArg Value.int (by first | rfl | (simp only [puM, h_1, hjc, h_2, h_3, hi0c, h_4, h_5, ↓reduceIte, Bool.false_eq_true]; done) | (simp only [puM, h_1, hjc, h_2, h_3, hi0c, h_4, h_5, ↓reduceIte, Bool.false_eq_true]; rfl) | (unfold puM; (repeat' split) <;> first | rfl | contradiction | (simp_all; done))))) (by first | rfl | (simp only [puS, h_1, hjc, h_2, h_3, hi0c, h_4, h_5, ↓reduceIte, Bool.false_eq_true]; done) | (simp only [puS, h_1, hjc, h_2, h_3, hi0c, h_4, h_5, ↓reduceIte, Bool.false_eq_true]; rfl))
          ·
            refine ab_iload_n hX dX12_put_77 mm4 ?_
            refine ab_i2s hX dX12_put_78 ?_
            refine ab_goto (tgt := 83) hX dX12_put_79 (by decide) ?_
            refine ab_iast (i := (100 * j + i0)) hX dX12_put_83 (mg_11 hA) (ix100 j i0) (by omega) (by decide) (mx_11 hA) ?_
            refine ab_iconst (v := 0) hX dX12_put_84 (by decide) ?_
            exact ab_ireturn hX hF dX12_put_85 rfl (by rfl) (congrArg some (congrArg Value.int (by first | rfl | (simp only [puM, h_1, hjc, h_2, h_3, hi0c, h_4, h_5, ↓reduceIte, Bool.false_eq_true]; done) | (simp only [puM, h_1, hjc, h_2, h_3, hi0c, h_4, h_5, ↓reduceIte, Bool.false_eq_true]; rfl) | (unfold puM; (repeat' split) <;> first | rfl | contradiction | (simp_all; done))))) (by first | rfl | (simp only [puS, h_1, hjc, h_2, h_3, hi0c, h_4, h_5, ↓reduceIte, Bool.false_eq_true]; done) | (simp only [puS, h_1, hjc, h_2, h_3, hi0c, h_4, h_5, ↓reduceIte, Bool.false_eq_true]; rfl))
        ·
          refine ab_iload_n hX dX12_put_62 mm4 ?_
          refine ab_i2b hX dX12_put_63 ?_
          refine ab_goto (tgt := 83) hX dX12_put_64 (by decide) ?_
          refine ab_iast (i := (100 * j + i0)) hX dX12_put_83 (mg_11 hA) (ix100 j i0) (by omega) (by decide) (mx_11 hA) ?_
          refine ab_iconst (v := 0) hX dX12_put_84 (by decide) ?_
          exact ab_ireturn hX hF dX12_put_85 rfl (by rfl) (congrArg some (congrArg Value.int (by first | rfl | (simp only [puM, h_1, hjc, h_2, h_3, hi0c, h_4, ↓reduceIte, Bool.false_eq_true]; done) | (simp only [puM, h_1, hjc, h_2, h_3, hi0c, h_4, ↓reduceIte, Bool.false_eq_true]; rfl) | (unfold puM; (repeat' split) <;> first | rfl | contradiction | (simp_all; done))))) (by first | rfl | (simp only [puS, h_1, hjc, h_2, h_3, hi0c, h_4, ↓reduceIte, Bool.false_eq_true]; done) | (simp only [puS, h_1, hjc, h_2, h_3, hi0c, h_4, ↓reduceIte, Bool.false_eq_true]; rfl))
      ·
        refine ab_bipush (v := (-13)) hX dX12_put_40 (by decide) ?_
        exact ab_ireturn hX hF dX12_put_42 rfl (by rfl) (congrArg some (congrArg Value.int (by first | rfl | (simp only [puM, h_1, hjc, h_2, h_3, ↓reduceIte, Bool.false_eq_true]; done) | (simp only [puM, h_1, hjc, h_2, h_3, ↓reduceIte, Bool.false_eq_true]; rfl) | (unfold puM; (repeat' split) <;> first | rfl | contradiction | (simp_all; done))))) (by first | rfl | (simp only [puS, h_1, hjc, h_2, h_3, ↓reduceIte, Bool.false_eq_true]; done) | (simp only [puS, h_1, hjc, h_2, h_3, ↓reduceIte, Bool.false_eq_true]; rfl))
    ·
      refine ab_iload hX dX12_put_21 mm0 ?_
      exact ab_ireturn hX hF dX12_put_23 rfl (by rfl) (congrArg some (congrArg Value.int (by first | rfl | (simp only [puM, h_1, hjc, h_2, ↓reduceIte, Bool.false_eq_true]; done) | (simp only [puM, h_1, hjc, h_2, ↓reduceIte, Bool.false_eq_true]; rfl) | (unfold puM; (repeat' split) <;> first | rfl | contradiction | (simp_all; done))))) (by first | rfl | (simp only [puS, h_1, hjc, h_2, ↓reduceIte, Bool.false_eq_true]; done) | (simp only [puS, h_1, hjc, h_2, ↓reduceIte, Bool.false_eq_true]; rfl))
  ·
    refine ab_iconst (v := (-1)) hX dX12_put_7 (by decide) ?_
    exact ab_ireturn hX hF dX12_put_8 rfl (by rfl) (congrArg some (congrArg Value.int (by first | rfl | (simp only [puM, h_1, ↓reduceIte, Bool.false_eq_true]; done) | (simp only [puM, h_1, ↓reduceIte, Bool.false_eq_true]; rfl) | (unfold puM; (repeat' split) <;> first | rfl | contradiction | (simp_all; done))))) (by first | rfl | (simp only [puS, h_1, ↓reduceIte, Bool.false_eq_true]; done) | (simp only [puS, h_1, ↓reduceIte, Bool.false_eq_true]; rfl))
theorem cm_X12_element {G : ab_G} (hG : ab_GG G) {A : List ab_E} {s : MS} {B : List ab_E} (hA : A.length = 42) {d : Int32} {i : Int32} (hSh : shI s) : ab_CM G mX12_element [.ref 42, .int d, .int i] (mH A s B) (some (.long (elM s d i))) (mH A (mu1 s 21 (elT s d i)) B) := by
  refine ab_meth (l0 := [(0, .ref 42), (1, .int d), (2, .int i)]) hG (by decide +kernel) rfl (Nat.le_of_ble_eq_true rfl) mH_lenE mH_szE (fun X hX hF => ?_)
  refine ab_aload_n hX dX12_element_0 mm0 ?_
  refine ab_iload_n hX dX12_element_1 mm1 ?_
  refine ab_callS1r hX dX12_element_2 ss_X12_element_107 (cm_X12_isShelf hG) (Nat.le_of_ble_eq_true rfl) ?_
  refine ab_ifneB (tgt := 12) hX dX12_element_5 (by decide) (fun h_1 => ?_) (fun h_1 => ?_)
  ·
    obtain ⟨j, hj, rfl⟩ := iw8 h_1
    have hjc := tn_nI (j := j) (by omega)
    refine ab_aload_n hX dX12_element_12 mm0 ?_
    refine ab_getfield hX dX12_element_13 (fs_X12_22_13 rfl) (mg_o hA) rfl ?_
    refine ab_iload_n hX dX12_element_16 mm1 ?_
    refine ab_iald (i := j) hX dX12_element_17 (mg_8 hA) rfl hj (by decide) ?_
    refine ab_iconst (v := 2) hX dX12_element_18 (by decide) ?_
    refine ab_icmpne (tgt := 38) hX dX12_element_19 (by decide) (fun h_2 => ?_) (fun h_2 => ?_)
    ·
      refine ab_iconst (v := 2) hX dX12_element_38 (by decide) ?_
      refine ab_goto (tgt := 43) hX dX12_element_39 (by decide) ?_
      refine ab_putfield hX dX12_element_43 ps_X12_element_240_13 (mg_o hA) (Nat.le_of_ble_eq_true rfl) rfl rfl (mx_21 hA) ?_
      refine ab_aload_n hX dX12_element_46 mm0 ?_
      refine ab_getfield hX dX12_element_47 (fs_X12_240_13 rfl) (mg_o hA) rfl ?_
      refine ab_ifeq (tgt := 57) hX dX12_element_50 (by decide) (fun h_3 => (by exact absurd h_3 (show ¬ (2 : Int32) = 0 by decide))) (fun h_3 => ?_)
      refine ab_lconst (v := 0) hX dX12_element_53 rfl ?_
      refine ab_goto (tgt := 69) hX dX12_element_54 (by decide) ?_
      exact ab_lreturn hX hF dX12_element_69 rfl (congrArg some (congrArg Value.long (by first | rfl | (simp only [elM, h_1, hjc, h_2, ↓reduceIte, Bool.false_eq_true]; done) | (simp only [elM, h_1, hjc, h_2, ↓reduceIte, Bool.false_eq_true]; rfl) | (unfold elM; (repeat' split) <;> first | rfl | contradiction | (simp_all; done))))) (by first | rfl | (simp only [elT, h_1, hjc, h_2, ↓reduceIte, Bool.false_eq_true]; done) | (simp only [elT, h_1, hjc, h_2, ↓reduceIte, Bool.false_eq_true]; rfl))
    ·
      obtain ⟨n, hn, hsec⟩ := shI_row hSh hj h_2
      refine ab_iload_n hX dX12_element_22 mm2 ?_
      refine ab_iconst (v := 0) hX dX12_element_23 (by decide) ?_
      refine ab_aload_n hX dX12_element_24 mm0 ?_
      refine ab_getfield hX dX12_element_25 (fs_X12_28_13 rfl) (mg_o hA) rfl ?_
      refine ab_iload_n hX dX12_element_28 mm1 ?_
      refine ab_iald (i := _) hX dX12_element_29 (mg_10 hA) (by rfl) (by omega) (by decide) ?_
      refine ab_iconst (v := 1) hX dX12_element_30 (by decide) ?_
      refine ab_isub hX dX12_element_31 ?_
      refine ab_callS3r hX dX12_element_32 ss_X12_element_43 (cm_X12_within hG) (Nat.le_of_ble_eq_true rfl) ?_
      refine ab_ifneB (tgt := 42) hX dX12_element_35 (by decide) (fun h_4 => ?_) (fun h_4 => ?_)
      ·
        rw [hsec] at h_4
        obtain ⟨i0, hi0, rfl⟩ := iw100 (n := n) rfl hn h_4
        rw [← hsec] at h_4
        have hi0c := tn_nI (j := i0) (by omega)
        refine ab_iconst (v := 0) hX dX12_element_42 (by decide) ?_
        refine ab_putfield hX dX12_element_43 ps_X12_element_240_13 (mg_o hA) (Nat.le_of_ble_eq_true rfl) rfl rfl (mx_21 hA) ?_
        refine ab_aload_n hX dX12_element_46 mm0 ?_
        refine ab_getfield hX dX12_element_47 (fs_X12_240_13 rfl) (mg_o hA) rfl ?_
        refine ab_ifeq (tgt := 57) hX dX12_element_50 (by decide) (fun h_5 => ?_) (fun h_5 => (by exact absurd (show (0 : Int32) = 0 by decide) h_5))
        refine ab_aload_n hX dX12_element_57 mm0 ?_
        refine ab_getfield hX dX12_element_58 (fs_X12_31_13 rfl) (mg_o hA) rfl ?_
        refine ab_bipush (v := 100) hX dX12_element_61 (by decide) ?_
        refine ab_iload_n hX dX12_element_63 mm1 ?_
        refine ab_imul hX dX12_element_64 ?_
        refine ab_iload_n hX dX12_element_65 mm2 ?_
        refine ab_iadd hX dX12_element_66 ?_
        refine ab_iald (i := (100 * j + i0)) hX dX12_element_67 (mg_11 hA) (ix100 j i0) (by omega) (by decide) ?_
        refine ab_i2l hX dX12_element_68 ?_
        exact ab_lreturn hX hF dX12_element_69 rfl (congrArg some (congrArg Value.long (by first | rfl | (simp only [elM, h_1, hjc, h_2, h_4, hi0c, ↓reduceIte, Bool.false_eq_true]; done) | (simp only [elM, h_1, hjc, h_2, h_4, hi0c, ↓reduceIte, Bool.false_eq_true]; rfl) | (unfold elM; (repeat' split) <;> first | rfl | contradiction | (simp_all; done))))) (by first | rfl | (simp only [elT, h_1, hjc, h_2, h_4, hi0c, ↓reduceIte, Bool.false_eq_true]; done) | (simp only [elT, h_1, hjc, h_2, h_4, hi0c, ↓reduceIte, Bool.false_eq_true]; rfl))
      ·
        refine ab_iconst (v := 2) hX dX12_element_38 (by decide) ?_
        refine ab_goto (tgt := 43) hX dX12_element_39 (by decide) ?_
        refine ab_putfield hX dX12_element_43 ps_X12_element_240_13 (mg_o hA) (Nat.le_of_ble_eq_true rfl) rfl rfl (mx_21 hA) ?_
        refine ab_aload_n hX dX12_element_46 mm0 ?_
        refine ab_getfield hX dX12_element_47 (fs_X12_240_13 rfl) (mg_o hA) rfl ?_
        refine ab_ifeq (tgt := 57) hX dX12_element_50 (by decide) (fun h_6 => (by exact absurd h_6 (show ¬ (2 : Int32) = 0 by decide))) (fun h_6 => ?_)
        refine ab_lconst (v := 0) hX dX12_element_53 rfl ?_
        refine ab_goto (tgt := 69) hX dX12_element_54 (by decide) ?_
        exact ab_lreturn hX hF dX12_element_69 rfl (congrArg some (congrArg Value.long (by first | rfl | (simp only [elM, h_1, hjc, h_2, h_4, ↓reduceIte, Bool.false_eq_true]; done) | (simp only [elM, h_1, hjc, h_2, h_4, ↓reduceIte, Bool.false_eq_true]; rfl) | (unfold elM; (repeat' split) <;> first | rfl | contradiction | (simp_all; done))))) (by first | rfl | (simp only [elT, h_1, hjc, h_2, h_4, ↓reduceIte, Bool.false_eq_true]; done) | (simp only [elT, h_1, hjc, h_2, h_4, ↓reduceIte, Bool.false_eq_true]; rfl))
  ·
    refine ab_iconst (v := 1) hX dX12_element_8 (by decide) ?_
    refine ab_goto (tgt := 43) hX dX12_element_9 (by decide) ?_
    refine ab_putfield hX dX12_element_43 ps_X12_element_240_13 (mg_o hA) (Nat.le_of_ble_eq_true rfl) rfl rfl (mx_21 hA) ?_
    refine ab_aload_n hX dX12_element_46 mm0 ?_
    refine ab_getfield hX dX12_element_47 (fs_X12_240_13 rfl) (mg_o hA) rfl ?_
    refine ab_ifeq (tgt := 57) hX dX12_element_50 (by decide) (fun h_7 => (by exact absurd h_7 (show ¬ (1 : Int32) = 0 by decide))) (fun h_7 => ?_)
    refine ab_lconst (v := 0) hX dX12_element_53 rfl ?_
    refine ab_goto (tgt := 69) hX dX12_element_54 (by decide) ?_
    exact ab_lreturn hX hF dX12_element_69 rfl (congrArg some (congrArg Value.long (by first | rfl | (simp only [elM, h_1, ↓reduceIte, Bool.false_eq_true]; done) | (simp only [elM, h_1, ↓reduceIte, Bool.false_eq_true]; rfl) | (unfold elM; (repeat' split) <;> first | rfl | contradiction | (simp_all; done))))) (by first | rfl | (simp only [elT, h_1, ↓reduceIte, Bool.false_eq_true]; done) | (simp only [elT, h_1, ↓reduceIte, Bool.false_eq_true]; rfl))
