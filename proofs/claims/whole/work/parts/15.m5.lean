/-- a text is read: shelf t, n signs -/
def pI (s : MS) (t n : Nat) : Prop := s.1 12 = nI t ∧ t < 8 ∧ s.1 13 = nI (tn (s.1 13)) ∧ tn (s.1 13) ≤ n ∧ s.2.1 10 t = nI n ∧ n ≤ 100
def chT (s : MS) (t : Nat) : Int32 := s.2.1 11 (100 * t + tn (s.1 13))
def isB (s : MS) (t : Nat) (c : Int32) : Bool := !decide (s.1 13 = s.2.1 10 t) && decide (chT s t = c)
def isS (s : MS) (t : Nat) (c : Int32) : MS := if isB s t c = true then mu1 s 13 (s.1 13 + 1) else s
theorem isS_t {s : MS} {t : Nat} {c : Int32} (h : isB s t c = true) : isS s t c = mu1 s 13 (s.1 13 + 1) := if_pos h
theorem isS_f {s : MS} {t : Nat} {c : Int32} (h : isB s t c = false) : isS s t c = s := if_neg (by rw [h]; decide)
theorem isB_ne {s : MS} {t : Nat} {c : Int32} (h : isB s t c = true) : ¬ s.1 13 = s.2.1 10 t := by
  intro e
  rw [isB, decide_eq_true e] at h
  cases h
theorem pI_lt {s : MS} {t n : Nat} (h : pI s t n) (hne : ¬ s.1 13 = s.2.1 10 t) : tn (s.1 13) < n := by
  rcases Nat.lt_or_ge (tn (s.1 13)) n with q | q
  · exact q
  · exact absurd (by rw [h.2.2.2.2.1, h.2.2.1, Nat.le_antisymm h.2.2.2.1 q]) hne
theorem pI_eq {s : MS} {t n : Nat} (h : pI s t n) (he : s.1 13 = s.2.1 10 t) : tn (s.1 13) = n := by
  have := h.2.2.2.2.2
  have := h.2.2.2.1
  rw [h.2.2.2.2.1, h.2.2.1] at he
  exact (nI_eq (by omega) (by omega)).mp he
theorem pI_ix {s : MS} {t n : Nat} (h : pI s t n) : 100 * s.1 12 + s.1 13 = nI (100 * t + tn (s.1 13)) := (congrArg (fun z => 100 * s.1 12 + z) h.2.2.1).trans (by rw [h.1]; exact ix100 _ _)
theorem tn_up {s : MS} {t n : Nat} (h : pI s t n) : s.1 13 + 1 = nI (tn (s.1 13) + 1) := (congrArg (· + 1) h.2.2.1).trans (nI_1 _)
theorem pI_up {s : MS} {t n : Nat} (h : pI s t n) (hne : ¬ s.1 13 = s.2.1 10 t) : pI (mu1 s 13 (s.1 13 + 1)) t n := by
  have b := pI_lt h hne
  have b2 := h.2.2.2.2.2
  have e : tn ((mu1 s 13 (s.1 13 + 1)).1 13) = tn (s.1 13) + 1 := by
    show tn (s.1 13 + 1) = _
    rw [tn_up h]; exact tn_nI (by omega)
  refine ⟨h.1, h.2.1, ?_, by rw [e]; omega, h.2.2.2.2.1, b2⟩
  rw [e]
  exact tn_up h
theorem pI_v {s : MS} {t n i : Nat} {x : Int32} (h : pI s t n) : pI (mu2 s 14 i x) t n := h
def dgS (t : Nat) : Nat → Nat → MS → MS × Bool
  | 0, _, s => (s, true)
  | k + 1, i, s => if s.1 13 = s.2.1 10 t then (s, false) else if chT s t < 48 then (s, false) else if chT s t ≤ 57 then dgS t k (i + 1) (mu1 (mu2 s 14 i (chT s t - 48)) 13 (s.1 13 + 1)) else (s, false)
theorem dgS_s (t k i : Nat) (s : MS) : dgS t (k + 1) i s = if s.1 13 = s.2.1 10 t then (s, false) else if chT s t < 48 then (s, false) else if chT s t ≤ 57 then dgS t k (i + 1) (mu1 (mu2 s 14 i (chT s t - 48)) 13 (s.1 13 + 1)) else (s, false) := rfl
theorem dg_pI {t n : Nat} : ∀ (k i : Nat) {s : MS}, pI s t n → pI (dgS t k i s).1 t n
  | 0, _, _, h => h
  | k + 1, i, s, h => by
    rw [dgS_s]
    by_cases c1 : s.1 13 = s.2.1 10 t
    · rw [if_pos c1]; exact h
    · rw [if_neg c1]
      by_cases c2 : chT s t < 48
      · rw [if_pos c2]; exact h
      · rw [if_neg c2]
        by_cases c3 : chT s t ≤ 57
        · rw [if_pos c3]; exact dg_pI k (i + 1) (pI_up (s := mu2 s 14 i (chT s t - 48)) (pI_v h) c1)
        · rw [if_neg c3]; exact h
/-- what digits leave as it was -/
theorem dg_fr {t : Nat} : ∀ (k i : Nat) (s : MS), (∀ j, j ≠ 13 → (dgS t k i s).1.1 j = s.1 j) ∧ (∀ j, j ≠ 14 → (dgS t k i s).1.2.1 j = s.2.1 j) ∧ (dgS t k i s).1.2.2 = s.2.2
  | 0, _, _ => ⟨fun _ _ => rfl, fun _ _ => rfl, rfl⟩
  | k + 1, i, s => by
    rw [dgS_s]
    by_cases c1 : s.1 13 = s.2.1 10 t
    · rw [if_pos c1]; exact ⟨fun _ _ => rfl, fun _ _ => rfl, rfl⟩
    · rw [if_neg c1]
      by_cases c2 : chT s t < 48
      · rw [if_pos c2]; exact ⟨fun _ _ => rfl, fun _ _ => rfl, rfl⟩
      · rw [if_neg c2]
        by_cases c3 : chT s t ≤ 57
        · rw [if_pos c3]
          obtain ⟨h1, h2, h3⟩ := dg_fr (t := t) k (i + 1) (mu1 (mu2 s 14 i (chT s t - 48)) 13 (s.1 13 + 1))
          refine ⟨fun j hj => (h1 j hj).trans (pk_un hj), fun j hj => (h2 j hj).trans (if_neg hj), h3⟩
        · rw [if_neg c3]; exact ⟨fun _ _ => rfl, fun _ _ => rfl, rfl⟩
theorem dg_mI {t nl nw ns : Nat} {k i : Nat} {s : MS} (h : mI s nl nw ns) : mI (dgS t k i s).1 nl nw ns := by
  obtain ⟨h1, -, -⟩ := dg_fr (t := t) k i s
  unfold mI
  rw [h1 1 (by decide), h1 3 (by decide), h1 5 (by decide)]
  exact h
def laS (nl : Nat) (r : MS) : MS × Int32 := if svB r 0 = true then (if r.1 1 = 6 then (r, 0) else (mu2 (mu1 r 1 (r.1 1 + 1)) 2 nl (rsI r 0), 1)) else (r, 0)
def waS (nw : Nat) (r : MS) : MS × Int32 := if 63 < twoI r then (r, 0) else (if r.1 3 = 5 then (r, 0) else (mu2 (mu1 r 3 (r.1 3 + 1)) 4 nw (twoI r), 1))
def taS (r : MS) : MS × Int32 := if twoI r ≤ 63 then (mu1 r 0 (twoI r), 1) else (r, 0)
def saS (ns : Nat) (r : MS) : MS × Int32 := if iw (r.2.1 14 0) 0 (r.1 3 - 1) = true then (if svB r 1 = true then (if r.1 5 = 10 then (r, 0) else (mu2 (mu1 (mu2 r 7 ns (r.2.1 14 0)) 5 (r.1 5 + 1)) 6 ns (rsI r 1), 1)) else (r, 0)) else (r, 0)
def stX (f : MS → MS × Int32) (k t : Nat) (tl : Int32) (s : MS) : MS × Int32 := if (dgS t k 0 s).2 = true then (if tl = 0 then ((dgS t k 0 s).1, 1) else f (dgS t k 0 s).1) else ((dgS t k 0 s).1, -1)
def stS (t nl nw ns : Nat) (tl : Int32) (s : MS) : MS × Int32 :=
  if isB s t 108 = true then stX (laS nl) 4 t tl (mu1 s 13 (s.1 13 + 1))
  else if isB s t 119 = true then stX (waS nw) 2 t tl (mu1 s 13 (s.1 13 + 1))
  else if isB s t 116 = true then stX taS 2 t tl (mu1 s 13 (s.1 13 + 1))
  else if isB s t 115 = true then stX (saS ns) 5 t tl (mu1 s 13 (s.1 13 + 1))
  else (s, -1)
theorem cm_X12_is {G : ab_G} (hG : ab_GG G) {A : List ab_E} {s : MS} {B : List ab_E} (hA : A.length = 42) {c : Int32} {t n : Nat} (hP : pI s t n) : ab_CM G mX12_is [.ref 42, .int c] (mH A s B) (some (.int (bi (isB s t c)))) (mH A (isS s t c) B) := by
  refine ab_meth (l0 := [(0, .ref 42), (1, .int c)]) hG (by decide +kernel) rfl (Nat.le_of_ble_eq_true rfl) mH_lenE mH_szE (fun X hX hF => ?_)
  have ht := hP.1
  have ht8 := hP.2.1
  have hn := hP.2.2.2.2.2
  refine ab_aload_n hX dX12_is_0 mm0 ?_
  refine ab_getfield hX dX12_is_1 (fs_X12_71_13 rfl) (mg_o hA) rfl ?_
  refine ab_aload_n hX dX12_is_4 mm0 ?_
  refine ab_getfield hX dX12_is_5 (fs_X12_28_13 rfl) (mg_o hA) rfl ?_
  refine ab_aload_n hX dX12_is_8 mm0 ?_
  refine ab_getfield hX dX12_is_9 (fs_X12_74_13 rfl) (mg_o hA) rfl ?_
  refine ab_iald (i := t) hX dX12_is_12 (mg_10 hA) ht ht8 (by decide) ?_
  refine ab_icmpeq (tgt := 37) hX dX12_is_13 (by decide) (fun h_1 => ?_) (fun h_1 => ?_)
  ·
    refine ab_iconst (v := 0) hX dX12_is_37 (by decide) ?_
    exact ab_ireturn hX hF dX12_is_38 rfl (by first | rfl | exact bi_n _) (congrArg some (congrArg Value.int (by simp [bi_t, bi_f, isB, chT, h_1]))) (by first | exact congrArg (fun z => mH A z B) (isS_t (by simp [isB, chT, h_1])).symm | exact congrArg (fun z => mH A z B) (isS_f (by simp [isB, chT, h_1])).symm)
  ·
    have hlt := pI_lt hP h_1
    refine ab_aload_n hX dX12_is_16 mm0 ?_
    refine ab_getfield hX dX12_is_17 (fs_X12_31_13 rfl) (mg_o hA) rfl ?_
    refine ab_bipush (v := 100) hX dX12_is_20 (by decide) ?_
    refine ab_aload_n hX dX12_is_22 mm0 ?_
    refine ab_getfield hX dX12_is_23 (fs_X12_74_13 rfl) (mg_o hA) rfl ?_
    refine ab_imul hX dX12_is_26 ?_
    refine ab_aload_n hX dX12_is_27 mm0 ?_
    refine ab_getfield hX dX12_is_28 (fs_X12_71_13 rfl) (mg_o hA) rfl ?_
    refine ab_iadd hX dX12_is_31 ?_
    refine ab_iald (i := (100 * t + tn (s.1 13))) hX dX12_is_32 (mg_11 hA) (pI_ix hP) (by omega) (by decide) ?_
    refine ab_iload_n hX dX12_is_33 mm1 ?_
    refine ab_icmpeq (tgt := 39) hX dX12_is_34 (by decide) (fun h_2 => ?_) (fun h_2 => ?_)
    ·
      refine ab_aload_n hX dX12_is_39 mm0 ?_
      refine ab_dup hX dX12_is_40 rfl ?_
      refine ab_getfield hX dX12_is_41 (fs_X12_71_13 rfl) (mg_o hA) rfl ?_
      refine ab_iconst (v := 1) hX dX12_is_44 (by decide) ?_
      refine ab_iadd hX dX12_is_45 ?_
      refine ab_putfield hX dX12_is_46 ps_X12_is_71_13 (mg_o hA) (Nat.le_of_ble_eq_true rfl) rfl rfl (mx_13 hA) ?_
      refine ab_iconst (v := 1) hX dX12_is_49 (by decide) ?_
      exact ab_ireturn hX hF dX12_is_50 rfl (by first | rfl | exact bi_n _) (congrArg some (congrArg Value.int (by simp [bi_t, bi_f, isB, chT, h_1, h_2]))) (by first | exact congrArg (fun z => mH A z B) (isS_t (by simp [isB, chT, h_1, h_2])).symm | exact congrArg (fun z => mH A z B) (isS_f (by simp [isB, chT, h_1, h_2])).symm)
    ·
      refine ab_iconst (v := 0) hX dX12_is_37 (by decide) ?_
      exact ab_ireturn hX hF dX12_is_38 rfl (by first | rfl | exact bi_n _) (congrArg some (congrArg Value.int (by simp [bi_t, bi_f, isB, chT, h_1, h_2]))) (by first | exact congrArg (fun z => mH A z B) (isS_t (by simp [isB, chT, h_1, h_2])).symm | exact congrArg (fun z => mH A z B) (isS_f (by simp [isB, chT, h_1, h_2])).symm)
theorem cm_X12_digits {G : ab_G} (hG : ab_GG G) {A : List ab_E} {s : MS} {B : List ab_E} (hA : A.length = 42) {k : Int32} {t n : Nat} (hP : pI s t n) {m : Nat} (hk : k = nI m) (hm5 : m ≤ 5) : ab_CM G mX12_digits [.ref 42, .int k] (mH A s B) (some (.int (bi (dgS t m 0 s).2))) (mH A (dgS t m 0 s).1 B) := by
  refine ab_meth (l0 := [(0, .ref 42), (1, .int k)]) hG (by decide +kernel) rfl (Nat.le_of_ble_eq_true rfl) mH_lenE mH_szE (fun X hX hF => ?_)
  subst hk
  refine ab_iconst (v := 0) hX dX12_digits_0 (by decide) ?_
  refine ab_istore_n hX dX12_digits_1 rfl (by decide) rfl ?_
  have L2 : ∀ (k2_ : Nat) (i : Nat) (s2 : MS) (hi_ : i ≤ m) (hQ : pI s2 t n) (hr : dgS t (m - i) i s2 = dgS t m 0 s), k2_ = m - i → ab_WA G mX12_digits X 2 [(0, .ref 42), (1, .int (nI m)), (2, .int (nI i))] [] (mH A s2 B) := by
    intro k2_
    induction k2_ using Nat.strongRecOn with
    | _ k2_ ih2 =>
      intro i s2 hi_ hQ hr hk2_
      refine ab_iload_n hX dX12_digits_2 mm2 ?_
      refine ab_iload_n hX dX12_digits_3 mm1 ?_
      refine ab_icmpge (tgt := 83) hX dX12_digits_4 (by decide) (fun h_1 => ?_) (fun h_1 => ?_)
      ·
        have hx_ := ctE (N := m) h_1 (by rfl) (by omega) (by omega)
        obtain rfl : m = i := by omega
        refine ab_iconst (v := 1) hX dX12_digits_83 (by decide) ?_
        exact ab_ireturn hX hF dX12_digits_84 rfl (by first | rfl | exact bi_n _) (congrArg some (congrArg Value.int (by rw [← hr, Nat.sub_self]; rfl))) (by rw [← hr, Nat.sub_self]; rfl)
      ·
        have hlt_ := ctL (N := m) h_1 (by rfl) (by omega) (by omega)
        have en_ : m - i = (m - (i + 1)) + 1 := by omega
        rw [en_] at hr
        have ht := hQ.1
        have ht8 := hQ.2.1
        have hn := hQ.2.2.2.2.2
        refine ab_aload_n hX dX12_digits_7 mm0 ?_
        refine ab_getfield hX dX12_digits_8 (fs_X12_71_13 rfl) (mg_o hA) rfl ?_
        refine ab_aload_n hX dX12_digits_11 mm0 ?_
        refine ab_getfield hX dX12_digits_12 (fs_X12_28_13 rfl) (mg_o hA) rfl ?_
        refine ab_aload_n hX dX12_digits_15 mm0 ?_
        refine ab_getfield hX dX12_digits_16 (fs_X12_74_13 rfl) (mg_o hA) rfl ?_
        refine ab_iald (i := t) hX dX12_digits_19 (mg_10 hA) ht ht8 (by decide) ?_
        refine ab_icmpne (tgt := 25) hX dX12_digits_20 (by decide) (fun h_2 => ?_) (fun h_2 => ?_)
        ·
          have hlt := pI_lt hQ h_2
          have hR := fun x => pI_up (s := mu2 s2 14 i x) (pI_v hQ) h_2
          refine ab_aload_n hX dX12_digits_25 mm0 ?_
          refine ab_getfield hX dX12_digits_26 (fs_X12_31_13 rfl) (mg_o hA) rfl ?_
          refine ab_bipush (v := 100) hX dX12_digits_29 (by decide) ?_
          refine ab_aload_n hX dX12_digits_31 mm0 ?_
          refine ab_getfield hX dX12_digits_32 (fs_X12_74_13 rfl) (mg_o hA) rfl ?_
          refine ab_imul hX dX12_digits_35 ?_
          refine ab_aload_n hX dX12_digits_36 mm0 ?_
          refine ab_getfield hX dX12_digits_37 (fs_X12_71_13 rfl) (mg_o hA) rfl ?_
          refine ab_iadd hX dX12_digits_40 ?_
          refine ab_iald (i := (100 * t + tn (s2.1 13))) hX dX12_digits_41 (mg_11 hA) (pI_ix hQ) (by omega) (by decide) ?_
          refine ab_istore_n hX dX12_digits_42 rfl (by decide) rfl ?_
          refine ab_iload_n hX dX12_digits_43 mm0 ?_
          refine ab_bipush (v := 48) hX dX12_digits_44 (by decide) ?_
          refine ab_icmplt (tgt := 55) hX dX12_digits_46 (by decide) (fun h_3 => ?_) (fun h_3 => ?_)
          ·
            refine ab_iconst (v := 0) hX dX12_digits_55 (by decide) ?_
            exact ab_ireturn hX hF dX12_digits_56 rfl (by first | rfl | exact bi_n _) (congrArg some (congrArg Value.int (by rw [← hr]; simp only [dgS_s, chT, h_1, h_2, h_3, ↓reduceIte]; first | done | rfl))) (by rw [← hr]; simp only [dgS_s, chT, h_1, h_2, h_3, ↓reduceIte]; first | done | rfl)
          ·
            refine ab_iload_n hX dX12_digits_49 mm0 ?_
            refine ab_bipush (v := 57) hX dX12_digits_50 (by decide) ?_
            refine ab_icmple (tgt := 57) hX dX12_digits_52 (by decide) (fun h_4 => ?_) (fun h_4 => ?_)
            ·
              refine ab_aload_n hX dX12_digits_57 mm1 ?_
              refine ab_getfield hX dX12_digits_58 (fs_X12_34_13 rfl) (mg_o hA) rfl ?_
              refine ab_iload_n hX dX12_digits_61 mm3 ?_
              refine ab_iload_n hX dX12_digits_62 mm0 ?_
              refine ab_bipush (v := 48) hX dX12_digits_63 (by decide) ?_
              refine ab_isub hX dX12_digits_65 ?_
              refine ab_iast (i := i) hX dX12_digits_66 (mg_14 hA) rfl (by omega) (by decide) (mx_14 hA) ?_
              refine ab_aload_n hX dX12_digits_67 mm1 ?_
              refine ab_dup hX dX12_digits_68 rfl ?_
              refine ab_getfield hX dX12_digits_69 (fs_X12_71_13 rfl) (mg_o hA) rfl ?_
              refine ab_iconst (v := 1) hX dX12_digits_72 (by decide) ?_
              refine ab_iadd hX dX12_digits_73 ?_
              refine ab_putfield hX dX12_digits_74 ps_X12_digits_71_13 (mg_o hA) (Nat.le_of_ble_eq_true rfl) rfl rfl (mx_13 hA) ?_
              refine ab_iinc hX dX12_digits_77 mm3 rfl (by decide) rfl ?_
              refine ab_goto (tgt := 2) hX dX12_digits_80 (by decide) ?_
              exact ab_pm3 mm2 (mmv3 (congrArg Value.int (by first | rfl | exact (nI_1 _).symm))) (mmv0 (congrArg Value.int (by first | rfl | exact (nI_1 _).symm))) (ih2 (_) (by omega) (i + 1) _ (by omega) (hR _) (by rw [← hr]; simp only [dgS_s, chT, h_1, h_2, h_3, h_4, ↓reduceIte]; first | done | rfl) rfl)
            ·
              refine ab_iconst (v := 0) hX dX12_digits_55 (by decide) ?_
              exact ab_ireturn hX hF dX12_digits_56 rfl (by first | rfl | exact bi_n _) (congrArg some (congrArg Value.int (by rw [← hr]; simp only [dgS_s, chT, h_1, h_2, h_3, h_4, ↓reduceIte]; first | done | rfl))) (by rw [← hr]; simp only [dgS_s, chT, h_1, h_2, h_3, h_4, ↓reduceIte]; first | done | rfl)
        ·
          refine ab_iconst (v := 0) hX dX12_digits_23 (by decide) ?_
          exact ab_ireturn hX hF dX12_digits_24 rfl (by first | rfl | exact bi_n _) (congrArg some (congrArg Value.int (by rw [← hr]; simp only [dgS_s, chT, h_1, h_2, ↓reduceIte]; first | done | rfl))) (by rw [← hr]; simp only [dgS_s, chT, h_1, h_2, ↓reduceIte]; first | done | rfl)
  exact ab_pm3 mm1 (mmv2 (congrArg Value.int (by rfl))) (mmv0 (congrArg Value.int (by rfl))) (L2 _ 0 s (by omega) hP rfl rfl)
theorem cm_X12_statement {G : ab_G} (hG : ab_GG G) {A : List ab_E} {s : MS} {B : List ab_E} (hA : A.length = 42) {tl : Int32} {nl nw ns : Nat} (hI : mI s nl nw ns) {t n : Nat} (hP : pI s t n) : ab_CM G mX12_statement [.ref 42, .int tl] (mH A s B) (some (.int (stS t nl nw ns tl s).2)) (mH A (stS t nl nw ns tl s).1 B) := by
  refine ab_meth (l0 := [(0, .ref 42), (1, .int tl)]) hG (by decide +kernel) rfl (Nat.le_of_ble_eq_true rfl) mH_lenE mH_szE (fun X hX hF => ?_)
  obtain ⟨hl, hl6, hw, hw5, hs, hs10⟩ := id hI
  refine ab_aload_n hX dX12_statement_0 mm0 ?_
  refine ab_bipush (v := 108) hX dX12_statement_1 (by decide) ?_
  refine ab_callV1r hX dX12_statement_3 (mg_o hA) ss_X12_statement_85 (cm_X12_is hG hA hP) (Nat.le_of_ble_eq_true rfl) ?_
  refine ab_ifeqB (tgt := 67) hX dX12_statement_6 (by decide) (fun h_1 => ?_) (fun h_1 => ?_)
  ·
    rw [isS_f h_1]
    refine ab_aload_n hX dX12_statement_67 mm0 ?_
    refine ab_bipush (v := 119) hX dX12_statement_68 (by decide) ?_
    refine ab_callV1r hX dX12_statement_70 (mg_o hA) ss_X12_statement_85 (cm_X12_is hG hA hP) (Nat.le_of_ble_eq_true rfl) ?_
    refine ab_ifeqB (tgt := 133) hX dX12_statement_73 (by decide) (fun h_2 => ?_) (fun h_2 => ?_)
    ·
      rw [isS_f h_2]
      refine ab_aload_n hX dX12_statement_133 mm0 ?_
      refine ab_bipush (v := 116) hX dX12_statement_134 (by decide) ?_
      refine ab_callV1r hX dX12_statement_136 (mg_o hA) ss_X12_statement_85 (cm_X12_is hG hA hP) (Nat.le_of_ble_eq_true rfl) ?_
      refine ab_ifeqB (tgt := 179) hX dX12_statement_139 (by decide) (fun h_3 => ?_) (fun h_3 => ?_)
      ·
        rw [isS_f h_3]
        refine ab_aload_n hX dX12_statement_179 mm0 ?_
        refine ab_bipush (v := 115) hX dX12_statement_180 (by decide) ?_
        refine ab_callV1r hX dX12_statement_182 (mg_o hA) ss_X12_statement_85 (cm_X12_is hG hA hP) (Nat.le_of_ble_eq_true rfl) ?_
        refine ab_ifeqB (tgt := 196) hX dX12_statement_185 (by decide) (fun h_4 => ?_) (fun h_4 => ?_)
        ·
          rw [isS_f h_4]
          refine ab_iconst (v := (-1)) hX dX12_statement_196 (by decide) ?_
          exact ab_ireturn hX hF dX12_statement_197 rfl (by rfl) (congrArg some (congrArg Value.int (by first | rfl | (simp only [stS, stX, laS, waS, taS, saS, h_1, h_2, h_3, h_4, ↓reduceIte, Bool.false_eq_true]; done) | (simp only [stS, stX, laS, waS, taS, saS, h_1, h_2, h_3, h_4, ↓reduceIte, Bool.false_eq_true]; rfl)))) (by first | rfl | (simp only [stS, stX, laS, waS, taS, saS, h_1, h_2, h_3, h_4, ↓reduceIte, Bool.false_eq_true]; done) | (simp only [stS, stX, laS, waS, taS, saS, h_1, h_2, h_3, h_4, ↓reduceIte, Bool.false_eq_true]; rfl))
        ·
          rw [isS_t h_4]
          have hP4 := pI_up hP (isB_ne h_4)
          have hJ4 : mI (mu1 s 13 (s.1 13 + 1)) nl nw ns := hI
          have hK4 := dg_mI (t := t) (k := 5) (i := 0) hJ4
          obtain ⟨hl_, hl6_, hw_, hw5_, hs_, hs10_⟩ := id hK4
          refine ab_aload_n hX dX12_statement_188 mm0 ?_
          refine ab_iconst (v := 5) hX dX12_statement_189 (by decide) ?_
          refine ab_callV1r hX dX12_statement_190 (mg_o hA) ss_X12_statement_88 (cm_X12_digits hG hA hP4 (m := 5) rfl (by decide)) (Nat.le_of_ble_eq_true rfl) ?_
          refine ab_ifneB (tgt := 198) hX dX12_statement_193 (by decide) (fun h_5 => ?_) (fun h_5 => ?_)
          ·
            refine ab_iload_n hX dX12_statement_198 mm1 ?_
            refine ab_ifne (tgt := 204) hX dX12_statement_199 (by decide) (fun h_6 => ?_) (fun h_6 => ?_)
            ·
              refine ab_aload_n hX dX12_statement_204 mm0 ?_
              refine ab_aload_n hX dX12_statement_205 mm0 ?_
              refine ab_getfield hX dX12_statement_206 (fs_X12_34_13 rfl) (mg_o hA) rfl ?_
              refine ab_iconst (v := 0) hX dX12_statement_209 (by decide) ?_
              refine ab_iald (i := 0) hX dX12_statement_210 (mg_14 hA) rfl (by decide) (by decide) ?_
              refine ab_callV1r hX dX12_statement_211 (mg_o hA) ss_X12_statement_104 (cm_X12_isWitness hG hA) (Nat.le_of_ble_eq_true rfl) ?_
              refine ab_ifeqB (tgt := 234) hX dX12_statement_214 (by decide) (fun h_7 => ?_) (fun h_7 => ?_)
              ·
                refine ab_iconst (v := 0) hX dX12_statement_234 (by decide) ?_
                exact ab_ireturn hX hF dX12_statement_235 rfl (by rfl) (congrArg some (congrArg Value.int (by first | rfl | (simp only [stS, stX, laS, waS, taS, saS, h_1, h_2, h_3, h_4, h_5, h_6, h_7, ↓reduceIte, Bool.false_eq_true]; done) | (simp only [stS, stX, laS, waS, taS, saS, h_1, h_2, h_3, h_4, h_5, h_6, h_7, ↓reduceIte, Bool.false_eq_true]; rfl)))) (by first | rfl | (simp only [stS, stX, laS, waS, taS, saS, h_1, h_2, h_3, h_4, h_5, h_6, h_7, ↓reduceIte, Bool.false_eq_true]; done) | (simp only [stS, stX, laS, waS, taS, saS, h_1, h_2, h_3, h_4, h_5, h_6, h_7, ↓reduceIte, Bool.false_eq_true]; rfl))
              ·
                refine ab_aload_n hX dX12_statement_217 mm0 ?_
                refine ab_iconst (v := 1) hX dX12_statement_218 (by decide) ?_
                refine ab_callV1r hX dX12_statement_219 (mg_o hA) ss_X12_statement_91 (cm_X12_isSaying hG hA (k := 1) rfl (by decide)) (Nat.le_of_ble_eq_true rfl) ?_
                refine ab_ifeqB (tgt := 234) hX dX12_statement_222 (by decide) (fun h_8 => ?_) (fun h_8 => ?_)
                ·
                  refine ab_iconst (v := 0) hX dX12_statement_234 (by decide) ?_
                  exact ab_ireturn hX hF dX12_statement_235 rfl (by rfl) (congrArg some (congrArg Value.int (by first | rfl | (simp only [stS, stX, laS, waS, taS, saS, h_1, h_2, h_3, h_4, h_5, h_6, h_7, h_8, ↓reduceIte, Bool.false_eq_true]; done) | (simp only [stS, stX, laS, waS, taS, saS, h_1, h_2, h_3, h_4, h_5, h_6, h_7, h_8, ↓reduceIte, Bool.false_eq_true]; rfl)))) (by first | rfl | (simp only [stS, stX, laS, waS, taS, saS, h_1, h_2, h_3, h_4, h_5, h_6, h_7, h_8, ↓reduceIte, Bool.false_eq_true]; done) | (simp only [stS, stX, laS, waS, taS, saS, h_1, h_2, h_3, h_4, h_5, h_6, h_7, h_8, ↓reduceIte, Bool.false_eq_true]; rfl))
                ·
                  refine ab_aload_n hX dX12_statement_225 mm0 ?_
                  refine ab_getfield hX dX12_statement_226 (fs_X12_51_13 rfl) (mg_o hA) rfl ?_
                  refine ab_bipush (v := 10) hX dX12_statement_229 (by decide) ?_
                  refine ab_icmpne (tgt := 236) hX dX12_statement_231 (by decide) (fun h_9 => ?_) (fun h_9 => ?_)
                  ·
                    have hn6 := neL hs_ hs10_ h_9
                    refine ab_aload_n hX dX12_statement_236 mm0 ?_
                    refine ab_getfield hX dX12_statement_237 (fs_X12_19_13 rfl) (mg_o hA) rfl ?_
                    refine ab_aload_n hX dX12_statement_240 mm0 ?_
                    refine ab_getfield hX dX12_statement_241 (fs_X12_51_13 rfl) (mg_o hA) rfl ?_
                    refine ab_aload_n hX dX12_statement_244 mm0 ?_
                    refine ab_getfield hX dX12_statement_245 (fs_X12_34_13 rfl) (mg_o hA) rfl ?_
                    refine ab_iconst (v := 0) hX dX12_statement_248 (by decide) ?_
                    refine ab_iald (i := 0) hX dX12_statement_249 (mg_14 hA) rfl (by decide) (by decide) ?_
                    refine ab_iast (i := ns) hX dX12_statement_250 (mg_7 hA) hs_ (by omega) (by decide) (mx_7 hA) ?_
                    refine ab_aload_n hX dX12_statement_251 mm0 ?_
                    refine ab_getfield hX dX12_statement_252 (fs_X12_16_13 rfl) (mg_o hA) rfl ?_
                    refine ab_aload_n hX dX12_statement_255 mm0 ?_
                    refine ab_dup hX dX12_statement_256 rfl ?_
                    refine ab_getfield hX dX12_statement_257 (fs_X12_51_13 rfl) (mg_o hA) rfl ?_
                    refine ab_dup_x1 hX dX12_statement_260 rfl rfl ?_
                    refine ab_iconst (v := 1) hX dX12_statement_261 (by decide) ?_
                    refine ab_iadd hX dX12_statement_262 ?_
                    refine ab_putfield hX dX12_statement_263 ps_X12_statement_51_13 (mg_o hA) (Nat.le_of_ble_eq_true rfl) rfl rfl (mx_5 hA) ?_
                    refine ab_aload_n hX dX12_statement_266 mm0 ?_
                    refine ab_iconst (v := 1) hX dX12_statement_267 (by decide) ?_
                    refine ab_callV1r hX dX12_statement_268 (mg_o hA) ss_X12_statement_97 (cm_X12_readSaying hG hA (k := 1) rfl (by decide)) (Nat.le_of_ble_eq_true rfl) ?_
                    refine ab_iast (i := ns) hX dX12_statement_271 (mg_6 hA) hs_ (by omega) (by decide) (mx_6 hA) ?_
                    refine ab_iconst (v := 1) hX dX12_statement_272 (by decide) ?_
                    exact ab_ireturn hX hF dX12_statement_273 rfl (by rfl) (congrArg some (congrArg Value.int (by first | rfl | (simp only [stS, stX, laS, waS, taS, saS, h_1, h_2, h_3, h_4, h_5, h_6, h_7, h_8, h_9, ↓reduceIte, Bool.false_eq_true]; done) | (simp only [stS, stX, laS, waS, taS, saS, h_1, h_2, h_3, h_4, h_5, h_6, h_7, h_8, h_9, ↓reduceIte, Bool.false_eq_true]; rfl)))) (by first | rfl | (simp only [stS, stX, laS, waS, taS, saS, h_1, h_2, h_3, h_4, h_5, h_6, h_7, h_8, h_9, ↓reduceIte, Bool.false_eq_true]; done) | (simp only [stS, stX, laS, waS, taS, saS, h_1, h_2, h_3, h_4, h_5, h_6, h_7, h_8, h_9, ↓reduceIte, Bool.false_eq_true]; rfl))
                  ·
                    refine ab_iconst (v := 0) hX dX12_statement_234 (by decide) ?_
                    exact ab_ireturn hX hF dX12_statement_235 rfl (by rfl) (congrArg some (congrArg Value.int (by first | rfl | (simp only [stS, stX, laS, waS, taS, saS, h_1, h_2, h_3, h_4, h_5, h_6, h_7, h_8, h_9, ↓reduceIte, Bool.false_eq_true]; done) | (simp only [stS, stX, laS, waS, taS, saS, h_1, h_2, h_3, h_4, h_5, h_6, h_7, h_8, h_9, ↓reduceIte, Bool.false_eq_true]; rfl)))) (by first | rfl | (simp only [stS, stX, laS, waS, taS, saS, h_1, h_2, h_3, h_4, h_5, h_6, h_7, h_8, h_9, ↓reduceIte, Bool.false_eq_true]; done) | (simp only [stS, stX, laS, waS, taS, saS, h_1, h_2, h_3, h_4, h_5, h_6, h_7, h_8, h_9, ↓reduceIte, Bool.false_eq_true]; rfl))
            ·
              refine ab_iconst (v := 1) hX dX12_statement_202 (by decide) ?_
              exact ab_ireturn hX hF dX12_statement_203 rfl (by rfl) (congrArg some (congrArg Value.int (by first | rfl | (simp only [stS, stX, laS, waS, taS, saS, h_1, h_2, h_3, h_4, h_5, h_6, ↓reduceIte, Bool.false_eq_true]; done) | (simp only [stS, stX, laS, waS, taS, saS, h_1, h_2, h_3, h_4, h_5, h_6, ↓reduceIte, Bool.false_eq_true]; rfl)))) (by first | rfl | (simp only [stS, stX, laS, waS, taS, saS, h_1, h_2, h_3, h_4, h_5, h_6, ↓reduceIte, Bool.false_eq_true]; done) | (simp only [stS, stX, laS, waS, taS, saS, h_1, h_2, h_3, h_4, h_5, h_6, ↓reduceIte, Bool.false_eq_true]; rfl))
          ·
            refine ab_iconst (v := (-1)) hX dX12_statement_196 (by decide) ?_
            exact ab_ireturn hX hF dX12_statement_197 rfl (by rfl) (congrArg some (congrArg Value.int (by first | rfl | (simp only [stS, stX, laS, waS, taS, saS, h_1, h_2, h_3, h_4, h_5, ↓reduceIte, Bool.false_eq_true]; done) | (simp only [stS, stX, laS, waS, taS, saS, h_1, h_2, h_3, h_4, h_5, ↓reduceIte, Bool.false_eq_true]; rfl)))) (by first | rfl | (simp only [stS, stX, laS, waS, taS, saS, h_1, h_2, h_3, h_4, h_5, ↓reduceIte, Bool.false_eq_true]; done) | (simp only [stS, stX, laS, waS, taS, saS, h_1, h_2, h_3, h_4, h_5, ↓reduceIte, Bool.false_eq_true]; rfl))
      ·
        rw [isS_t h_3]
        have hP3 := pI_up hP (isB_ne h_3)
        have hJ3 : mI (mu1 s 13 (s.1 13 + 1)) nl nw ns := hI
        have hK3 := dg_mI (t := t) (k := 2) (i := 0) hJ3
        obtain ⟨hl_, hl6_, hw_, hw5_, hs_, hs10_⟩ := id hK3
        refine ab_aload_n hX dX12_statement_142 mm0 ?_
        refine ab_iconst (v := 2) hX dX12_statement_143 (by decide) ?_
        refine ab_callV1r hX dX12_statement_144 (mg_o hA) ss_X12_statement_88 (cm_X12_digits hG hA hP3 (m := 2) rfl (by decide)) (Nat.le_of_ble_eq_true rfl) ?_
        refine ab_ifneB (tgt := 152) hX dX12_statement_147 (by decide) (fun h_10 => ?_) (fun h_10 => ?_)
        ·
          refine ab_iload_n hX dX12_statement_152 mm1 ?_
          refine ab_ifne (tgt := 158) hX dX12_statement_153 (by decide) (fun h_11 => ?_) (fun h_11 => ?_)
          ·
            refine ab_aload_n hX dX12_statement_158 mm0 ?_
            refine ab_callV0r hX dX12_statement_159 (mg_o hA) ss_X12_statement_100 (cm_X12_two hG hA) (Nat.le_of_ble_eq_true rfl) ?_
            refine ab_bipush (v := 63) hX dX12_statement_162 (by decide) ?_
            refine ab_icmple (tgt := 169) hX dX12_statement_164 (by decide) (fun h_12 => ?_) (fun h_12 => ?_)
            ·
              refine ab_aload_n hX dX12_statement_169 mm0 ?_
              refine ab_aload_n hX dX12_statement_170 mm0 ?_
              refine ab_callV0r hX dX12_statement_171 (mg_o hA) ss_X12_statement_100 (cm_X12_two hG hA) (Nat.le_of_ble_eq_true rfl) ?_
              refine ab_putfield hX dX12_statement_174 ps_X12_statement_61_13 (mg_o hA) (Nat.le_of_ble_eq_true rfl) rfl rfl (mx_0 hA) ?_
              refine ab_iconst (v := 1) hX dX12_statement_177 (by decide) ?_
              exact ab_ireturn hX hF dX12_statement_178 rfl (by rfl) (congrArg some (congrArg Value.int (by first | rfl | (simp only [stS, stX, laS, waS, taS, saS, h_1, h_2, h_3, h_10, h_11, h_12, ↓reduceIte, Bool.false_eq_true]; done) | (simp only [stS, stX, laS, waS, taS, saS, h_1, h_2, h_3, h_10, h_11, h_12, ↓reduceIte, Bool.false_eq_true]; rfl)))) (by first | rfl | (simp only [stS, stX, laS, waS, taS, saS, h_1, h_2, h_3, h_10, h_11, h_12, ↓reduceIte, Bool.false_eq_true]; done) | (simp only [stS, stX, laS, waS, taS, saS, h_1, h_2, h_3, h_10, h_11, h_12, ↓reduceIte, Bool.false_eq_true]; rfl))
            ·
              refine ab_iconst (v := 0) hX dX12_statement_167 (by decide) ?_
              exact ab_ireturn hX hF dX12_statement_168 rfl (by rfl) (congrArg some (congrArg Value.int (by first | rfl | (simp only [stS, stX, laS, waS, taS, saS, h_1, h_2, h_3, h_10, h_11, h_12, ↓reduceIte, Bool.false_eq_true]; done) | (simp only [stS, stX, laS, waS, taS, saS, h_1, h_2, h_3, h_10, h_11, h_12, ↓reduceIte, Bool.false_eq_true]; rfl)))) (by first | rfl | (simp only [stS, stX, laS, waS, taS, saS, h_1, h_2, h_3, h_10, h_11, h_12, ↓reduceIte, Bool.false_eq_true]; done) | (simp only [stS, stX, laS, waS, taS, saS, h_1, h_2, h_3, h_10, h_11, h_12, ↓reduceIte, Bool.false_eq_true]; rfl))
          ·
            refine ab_iconst (v := 1) hX dX12_statement_156 (by decide) ?_
            exact ab_ireturn hX hF dX12_statement_157 rfl (by rfl) (congrArg some (congrArg Value.int (by first | rfl | (simp only [stS, stX, laS, waS, taS, saS, h_1, h_2, h_3, h_10, h_11, ↓reduceIte, Bool.false_eq_true]; done) | (simp only [stS, stX, laS, waS, taS, saS, h_1, h_2, h_3, h_10, h_11, ↓reduceIte, Bool.false_eq_true]; rfl)))) (by first | rfl | (simp only [stS, stX, laS, waS, taS, saS, h_1, h_2, h_3, h_10, h_11, ↓reduceIte, Bool.false_eq_true]; done) | (simp only [stS, stX, laS, waS, taS, saS, h_1, h_2, h_3, h_10, h_11, ↓reduceIte, Bool.false_eq_true]; rfl))
        ·
          refine ab_iconst (v := (-1)) hX dX12_statement_150 (by decide) ?_
          exact ab_ireturn hX hF dX12_statement_151 rfl (by rfl) (congrArg some (congrArg Value.int (by first | rfl | (simp only [stS, stX, laS, waS, taS, saS, h_1, h_2, h_3, h_10, ↓reduceIte, Bool.false_eq_true]; done) | (simp only [stS, stX, laS, waS, taS, saS, h_1, h_2, h_3, h_10, ↓reduceIte, Bool.false_eq_true]; rfl)))) (by first | rfl | (simp only [stS, stX, laS, waS, taS, saS, h_1, h_2, h_3, h_10, ↓reduceIte, Bool.false_eq_true]; done) | (simp only [stS, stX, laS, waS, taS, saS, h_1, h_2, h_3, h_10, ↓reduceIte, Bool.false_eq_true]; rfl))
    ·
      rw [isS_t h_2]
      have hP2 := pI_up hP (isB_ne h_2)
      have hJ2 : mI (mu1 s 13 (s.1 13 + 1)) nl nw ns := hI
      have hK2 := dg_mI (t := t) (k := 2) (i := 0) hJ2
      obtain ⟨hl_, hl6_, hw_, hw5_, hs_, hs10_⟩ := id hK2
      refine ab_aload_n hX dX12_statement_76 mm0 ?_
      refine ab_iconst (v := 2) hX dX12_statement_77 (by decide) ?_
      refine ab_callV1r hX dX12_statement_78 (mg_o hA) ss_X12_statement_88 (cm_X12_digits hG hA hP2 (m := 2) rfl (by decide)) (Nat.le_of_ble_eq_true rfl) ?_
      refine ab_ifneB (tgt := 86) hX dX12_statement_81 (by decide) (fun h_13 => ?_) (fun h_13 => ?_)
      ·
        refine ab_iload_n hX dX12_statement_86 mm1 ?_
        refine ab_ifne (tgt := 92) hX dX12_statement_87 (by decide) (fun h_14 => ?_) (fun h_14 => ?_)
        ·
          refine ab_aload_n hX dX12_statement_92 mm0 ?_
          refine ab_callV0r hX dX12_statement_93 (mg_o hA) ss_X12_statement_100 (cm_X12_two hG hA) (Nat.le_of_ble_eq_true rfl) ?_
          refine ab_bipush (v := 63) hX dX12_statement_96 (by decide) ?_
          refine ab_icmpgt (tgt := 109) hX dX12_statement_98 (by decide) (fun h_15 => ?_) (fun h_15 => ?_)
          ·
            refine ab_iconst (v := 0) hX dX12_statement_109 (by decide) ?_
            exact ab_ireturn hX hF dX12_statement_110 rfl (by rfl) (congrArg some (congrArg Value.int (by first | rfl | (simp only [stS, stX, laS, waS, taS, saS, h_1, h_2, h_13, h_14, h_15, ↓reduceIte, Bool.false_eq_true]; done) | (simp only [stS, stX, laS, waS, taS, saS, h_1, h_2, h_13, h_14, h_15, ↓reduceIte, Bool.false_eq_true]; rfl)))) (by first | rfl | (simp only [stS, stX, laS, waS, taS, saS, h_1, h_2, h_13, h_14, h_15, ↓reduceIte, Bool.false_eq_true]; done) | (simp only [stS, stX, laS, waS, taS, saS, h_1, h_2, h_13, h_14, h_15, ↓reduceIte, Bool.false_eq_true]; rfl))
          ·
            refine ab_aload_n hX dX12_statement_101 mm0 ?_
            refine ab_getfield hX dX12_statement_102 (fs_X12_47_13 rfl) (mg_o hA) rfl ?_
            refine ab_iconst (v := 5) hX dX12_statement_105 (by decide) ?_
            refine ab_icmpne (tgt := 111) hX dX12_statement_106 (by decide) (fun h_16 => ?_) (fun h_16 => ?_)
            ·
              have hn6 := neL hw_ hw5_ h_16
              refine ab_aload_n hX dX12_statement_111 mm0 ?_
              refine ab_getfield hX dX12_statement_112 (fs_X12_13_13 rfl) (mg_o hA) rfl ?_
              refine ab_aload_n hX dX12_statement_115 mm0 ?_
              refine ab_dup hX dX12_statement_116 rfl ?_
              refine ab_getfield hX dX12_statement_117 (fs_X12_47_13 rfl) (mg_o hA) rfl ?_
              refine ab_dup_x1 hX dX12_statement_120 rfl rfl ?_
              refine ab_iconst (v := 1) hX dX12_statement_121 (by decide) ?_
              refine ab_iadd hX dX12_statement_122 ?_
              refine ab_putfield hX dX12_statement_123 ps_X12_statement_47_13 (mg_o hA) (Nat.le_of_ble_eq_true rfl) rfl rfl (mx_3 hA) ?_
              refine ab_aload_n hX dX12_statement_126 mm0 ?_
              refine ab_callV0r hX dX12_statement_127 (mg_o hA) ss_X12_statement_100 (cm_X12_two hG hA) (Nat.le_of_ble_eq_true rfl) ?_
              refine ab_iast (i := nw) hX dX12_statement_130 (mg_4 hA) hw_ (by omega) (by decide) (mx_4 hA) ?_
              refine ab_iconst (v := 1) hX dX12_statement_131 (by decide) ?_
              exact ab_ireturn hX hF dX12_statement_132 rfl (by rfl) (congrArg some (congrArg Value.int (by first | rfl | (simp only [stS, stX, laS, waS, taS, saS, h_1, h_2, h_13, h_14, h_15, h_16, ↓reduceIte, Bool.false_eq_true]; done) | (simp only [stS, stX, laS, waS, taS, saS, h_1, h_2, h_13, h_14, h_15, h_16, ↓reduceIte, Bool.false_eq_true]; rfl)))) (by first | rfl | (simp only [stS, stX, laS, waS, taS, saS, h_1, h_2, h_13, h_14, h_15, h_16, ↓reduceIte, Bool.false_eq_true]; done) | (simp only [stS, stX, laS, waS, taS, saS, h_1, h_2, h_13, h_14, h_15, h_16, ↓reduceIte, Bool.false_eq_true]; rfl))
            ·
              refine ab_iconst (v := 0) hX dX12_statement_109 (by decide) ?_
              exact ab_ireturn hX hF dX12_statement_110 rfl (by rfl) (congrArg some (congrArg Value.int (by first | rfl | (simp only [stS, stX, laS, waS, taS, saS, h_1, h_2, h_13, h_14, h_15, h_16, ↓reduceIte, Bool.false_eq_true]; done) | (simp only [stS, stX, laS, waS, taS, saS, h_1, h_2, h_13, h_14, h_15, h_16, ↓reduceIte, Bool.false_eq_true]; rfl)))) (by first | rfl | (simp only [stS, stX, laS, waS, taS, saS, h_1, h_2, h_13, h_14, h_15, h_16, ↓reduceIte, Bool.false_eq_true]; done) | (simp only [stS, stX, laS, waS, taS, saS, h_1, h_2, h_13, h_14, h_15, h_16, ↓reduceIte, Bool.false_eq_true]; rfl))
        ·
          refine ab_iconst (v := 1) hX dX12_statement_90 (by decide) ?_
          exact ab_ireturn hX hF dX12_statement_91 rfl (by rfl) (congrArg some (congrArg Value.int (by first | rfl | (simp only [stS, stX, laS, waS, taS, saS, h_1, h_2, h_13, h_14, ↓reduceIte, Bool.false_eq_true]; done) | (simp only [stS, stX, laS, waS, taS, saS, h_1, h_2, h_13, h_14, ↓reduceIte, Bool.false_eq_true]; rfl)))) (by first | rfl | (simp only [stS, stX, laS, waS, taS, saS, h_1, h_2, h_13, h_14, ↓reduceIte, Bool.false_eq_true]; done) | (simp only [stS, stX, laS, waS, taS, saS, h_1, h_2, h_13, h_14, ↓reduceIte, Bool.false_eq_true]; rfl))
      ·
        refine ab_iconst (v := (-1)) hX dX12_statement_84 (by decide) ?_
        exact ab_ireturn hX hF dX12_statement_85 rfl (by rfl) (congrArg some (congrArg Value.int (by first | rfl | (simp only [stS, stX, laS, waS, taS, saS, h_1, h_2, h_13, ↓reduceIte, Bool.false_eq_true]; done) | (simp only [stS, stX, laS, waS, taS, saS, h_1, h_2, h_13, ↓reduceIte, Bool.false_eq_true]; rfl)))) (by first | rfl | (simp only [stS, stX, laS, waS, taS, saS, h_1, h_2, h_13, ↓reduceIte, Bool.false_eq_true]; done) | (simp only [stS, stX, laS, waS, taS, saS, h_1, h_2, h_13, ↓reduceIte, Bool.false_eq_true]; rfl))
  ·
    rw [isS_t h_1]
    have hP1 := pI_up hP (isB_ne h_1)
    have hJ1 : mI (mu1 s 13 (s.1 13 + 1)) nl nw ns := hI
    have hK1 := dg_mI (t := t) (k := 4) (i := 0) hJ1
    obtain ⟨hl_, hl6_, hw_, hw5_, hs_, hs10_⟩ := id hK1
    refine ab_aload_n hX dX12_statement_9 mm0 ?_
    refine ab_iconst (v := 4) hX dX12_statement_10 (by decide) ?_
    refine ab_callV1r hX dX12_statement_11 (mg_o hA) ss_X12_statement_88 (cm_X12_digits hG hA hP1 (m := 4) rfl (by decide)) (Nat.le_of_ble_eq_true rfl) ?_
    refine ab_ifneB (tgt := 19) hX dX12_statement_14 (by decide) (fun h_17 => ?_) (fun h_17 => ?_)
    ·
      refine ab_iload_n hX dX12_statement_19 mm1 ?_
      refine ab_ifne (tgt := 25) hX dX12_statement_20 (by decide) (fun h_18 => ?_) (fun h_18 => ?_)
      ·
        refine ab_aload_n hX dX12_statement_25 mm0 ?_
        refine ab_iconst (v := 0) hX dX12_statement_26 (by decide) ?_
        refine ab_callV1r hX dX12_statement_27 (mg_o hA) ss_X12_statement_91 (cm_X12_isSaying hG hA (k := 0) rfl (by decide)) (Nat.le_of_ble_eq_true rfl) ?_
        refine ab_ifeqB (tgt := 42) hX dX12_statement_30 (by decide) (fun h_19 => ?_) (fun h_19 => ?_)
        ·
          refine ab_iconst (v := 0) hX dX12_statement_42 (by decide) ?_
          exact ab_ireturn hX hF dX12_statement_43 rfl (by rfl) (congrArg some (congrArg Value.int (by first | rfl | (simp only [stS, stX, laS, waS, taS, saS, h_1, h_17, h_18, h_19, ↓reduceIte, Bool.false_eq_true]; done) | (simp only [stS, stX, laS, waS, taS, saS, h_1, h_17, h_18, h_19, ↓reduceIte, Bool.false_eq_true]; rfl)))) (by first | rfl | (simp only [stS, stX, laS, waS, taS, saS, h_1, h_17, h_18, h_19, ↓reduceIte, Bool.false_eq_true]; done) | (simp only [stS, stX, laS, waS, taS, saS, h_1, h_17, h_18, h_19, ↓reduceIte, Bool.false_eq_true]; rfl))
        ·
          refine ab_aload_n hX dX12_statement_33 mm0 ?_
          refine ab_getfield hX dX12_statement_34 (fs_X12_94_13 rfl) (mg_o hA) rfl ?_
          refine ab_bipush (v := 6) hX dX12_statement_37 (by decide) ?_
          refine ab_icmpne (tgt := 44) hX dX12_statement_39 (by decide) (fun h_20 => ?_) (fun h_20 => ?_)
          ·
            have hn6 := neL hl_ hl6_ h_20
            refine ab_aload_n hX dX12_statement_44 mm0 ?_
            refine ab_getfield hX dX12_statement_45 (fs_X12_7_13 rfl) (mg_o hA) rfl ?_
            refine ab_aload_n hX dX12_statement_48 mm0 ?_
            refine ab_dup hX dX12_statement_49 rfl ?_
            refine ab_getfield hX dX12_statement_50 (fs_X12_94_13 rfl) (mg_o hA) rfl ?_
            refine ab_dup_x1 hX dX12_statement_53 rfl rfl ?_
            refine ab_iconst (v := 1) hX dX12_statement_54 (by decide) ?_
            refine ab_iadd hX dX12_statement_55 ?_
            refine ab_putfield hX dX12_statement_56 ps_X12_statement_94_13 (mg_o hA) (Nat.le_of_ble_eq_true rfl) rfl rfl (mx_1 hA) ?_
            refine ab_aload_n hX dX12_statement_59 mm0 ?_
            refine ab_iconst (v := 0) hX dX12_statement_60 (by decide) ?_
            refine ab_callV1r hX dX12_statement_61 (mg_o hA) ss_X12_statement_97 (cm_X12_readSaying hG hA (k := 0) rfl (by decide)) (Nat.le_of_ble_eq_true rfl) ?_
            refine ab_iast (i := nl) hX dX12_statement_64 (mg_2 hA) hl_ (by omega) (by decide) (mx_2 hA) ?_
            refine ab_iconst (v := 1) hX dX12_statement_65 (by decide) ?_
            exact ab_ireturn hX hF dX12_statement_66 rfl (by rfl) (congrArg some (congrArg Value.int (by first | rfl | (simp only [stS, stX, laS, waS, taS, saS, h_1, h_17, h_18, h_19, h_20, ↓reduceIte, Bool.false_eq_true]; done) | (simp only [stS, stX, laS, waS, taS, saS, h_1, h_17, h_18, h_19, h_20, ↓reduceIte, Bool.false_eq_true]; rfl)))) (by first | rfl | (simp only [stS, stX, laS, waS, taS, saS, h_1, h_17, h_18, h_19, h_20, ↓reduceIte, Bool.false_eq_true]; done) | (simp only [stS, stX, laS, waS, taS, saS, h_1, h_17, h_18, h_19, h_20, ↓reduceIte, Bool.false_eq_true]; rfl))
          ·
            refine ab_iconst (v := 0) hX dX12_statement_42 (by decide) ?_
            exact ab_ireturn hX hF dX12_statement_43 rfl (by rfl) (congrArg some (congrArg Value.int (by first | rfl | (simp only [stS, stX, laS, waS, taS, saS, h_1, h_17, h_18, h_19, h_20, ↓reduceIte, Bool.false_eq_true]; done) | (simp only [stS, stX, laS, waS, taS, saS, h_1, h_17, h_18, h_19, h_20, ↓reduceIte, Bool.false_eq_true]; rfl)))) (by first | rfl | (simp only [stS, stX, laS, waS, taS, saS, h_1, h_17, h_18, h_19, h_20, ↓reduceIte, Bool.false_eq_true]; done) | (simp only [stS, stX, laS, waS, taS, saS, h_1, h_17, h_18, h_19, h_20, ↓reduceIte, Bool.false_eq_true]; rfl))
      ·
        refine ab_iconst (v := 1) hX dX12_statement_23 (by decide) ?_
        exact ab_ireturn hX hF dX12_statement_24 rfl (by rfl) (congrArg some (congrArg Value.int (by first | rfl | (simp only [stS, stX, laS, waS, taS, saS, h_1, h_17, h_18, ↓reduceIte, Bool.false_eq_true]; done) | (simp only [stS, stX, laS, waS, taS, saS, h_1, h_17, h_18, ↓reduceIte, Bool.false_eq_true]; rfl)))) (by first | rfl | (simp only [stS, stX, laS, waS, taS, saS, h_1, h_17, h_18, ↓reduceIte, Bool.false_eq_true]; done) | (simp only [stS, stX, laS, waS, taS, saS, h_1, h_17, h_18, ↓reduceIte, Bool.false_eq_true]; rfl))
    ·
      refine ab_iconst (v := (-1)) hX dX12_statement_17 (by decide) ?_
      exact ab_ireturn hX hF dX12_statement_18 rfl (by rfl) (congrArg some (congrArg Value.int (by first | rfl | (simp only [stS, stX, laS, waS, taS, saS, h_1, h_17, ↓reduceIte, Bool.false_eq_true]; done) | (simp only [stS, stX, laS, waS, taS, saS, h_1, h_17, ↓reduceIte, Bool.false_eq_true]; rfl)))) (by first | rfl | (simp only [stS, stX, laS, waS, taS, saS, h_1, h_17, ↓reduceIte, Bool.false_eq_true]; done) | (simp only [stS, stX, laS, waS, taS, saS, h_1, h_17, ↓reduceIte, Bool.false_eq_true]; rfl))
