theorem lg_le {x y : Int64} (h : ¬ 0 < lg_cmp x y) : x ≤ y := by
  unfold lg_cmp at h
  by_cases c : y < x
  · rw [if_pos c] at h; exact absurd (by decide) h
  · rw [Int64.le_iff_toInt_le]; rw [Int64.lt_iff_toInt_lt] at c; omega
theorem lg_le0 {x y : Int64} : lg_cmp x y ≤ 0 ↔ ¬ 0 < lg_cmp x y := by
  unfold lg_cmp
  by_cases c : y < x
  · rw [if_pos c]; decide
  · rw [if_neg c]
    by_cases c2 : x = y
    · rw [if_pos c2]; decide
    · rw [if_neg c2]; decide
theorem cpB {a b n : Nat} {x : Int32} (ha : a < 2 ^ 31) (hb : b < 2 ^ 31) (hn : n ≤ 100) (hx : x = nI n) (h : ¬ 0 < lg_cmp ((nI a).toInt64 + (nI b).toInt64) x.toInt64) : a + b ≤ n := by
  have q := lg_le h
  rw [hx, nI_l ha, nI_l hb, nI_l (by omega)] at q
  have e : lN a + lN b = lN (a + b) := (Int64.ofNat_add a b).symm
  rw [e] at q
  exact (pk_lLE (by omega) (by omega)).mp q
theorem cpB0 {a b n : Nat} {x : Int32} (ha : a < 2 ^ 31) (hb : b < 2 ^ 31) (hn : n ≤ 100) (hx : x = nI n) (h : lg_cmp ((nI a).toInt64 + (nI b).toInt64) x.toInt64 ≤ 0) : a + b ≤ n := cpB ha hb hn hx (lg_le0.mp h)
theorem dn_1 (m : Nat) : nI (m + 1) - 1 + Int32.ofInt (-1) = nI m - 1 := by rw [nI_pred, Int32.sub_eq_add_neg]; rfl
theorem ix100a (e j m : Nat) : (100 : Int32) * nI e + nI j + nI m = nI (100 * e + j + m) := by rw [ix100, nI_add]
theorem ix100d (e j m : Nat) : (100 : Int32) * nI e + nI j + (nI (m + 1) - 1) = nI (100 * e + j + m) := by rw [nI_pred]; exact ix100a e j m
def cpU (a b : Nat) (i : Nat) (s : MS) : MS := mu2 s 11 (a + i) (s.2.1 11 (b + i))
def cpD (a b : Nat) : Nat → MS → MS
  | 0, s => s
  | m + 1, s => cpD a b m (mu2 s 11 (a + m) (s.2.1 11 (b + m)))
theorem cpD_s {a b m : Nat} {s : MS} : cpD a b (m + 1) s = cpD a b m (mu2 s 11 (a + m) (s.2.1 11 (b + m))) := rfl
def coM (s : MS) (d i e j n : Int32) : Int32 :=
  if iw d 0 7 = true then (if iw e 0 7 = true then (if s.2.1 8 (tn d) = 0 then -11 else if s.2.1 8 (tn e) = 0 then -11 else if s.2.1 8 (tn d) = 2 then (if s.2.1 8 (tn e) = 2 then (if s.2.1 9 (tn d) = s.2.1 9 (tn e) then
    (if n < 0 then -13 else if i < 0 then -13 else if j < 0 then -13 else if 0 < lg_cmp (i.toInt64 + n.toInt64) (s.2.1 10 (tn d)).toInt64 then -13 else if lg_cmp (j.toInt64 + n.toInt64) (s.2.1 10 (tn e)).toInt64 ≤ 0 then n else -13) else -12) else -12) else -12) else -1) else -1
def coS (s : MS) (d i e j n : Int32) : MS :=
  if iw d 0 7 = true then (if iw e 0 7 = true then (if s.2.1 8 (tn d) = 0 then s else if s.2.1 8 (tn e) = 0 then s else if s.2.1 8 (tn d) = 2 then (if s.2.1 8 (tn e) = 2 then (if s.2.1 9 (tn d) = s.2.1 9 (tn e) then
    (if n < 0 then s else if i < 0 then s else if j < 0 then s else if 0 < lg_cmp (i.toInt64 + n.toInt64) (s.2.1 10 (tn d)).toInt64 then s else if lg_cmp (j.toInt64 + n.toInt64) (s.2.1 10 (tn e)).toInt64 ≤ 0 then
      (if d = e then (if j ≤ i then acc (cpU (100 * tn e + tn j) (100 * tn d + tn i)) s (tn n) else cpD (100 * tn e + tn j) (100 * tn d + tn i) (tn n) s) else acc (cpU (100 * tn e + tn j) (100 * tn d + tn i)) s (tn n)) else s) else s) else s) else s) else s) else s
theorem i1_0 : ((1 : Int32) = 0) = False := eq_false (by decide)
theorem i2_0 : ((2 : Int32) = 0) = False := eq_false (by decide)
/-- the greatest divisor, in at most so many steps -/
def gdE : Nat → Int64 → Int64 → Option Int64
  | 0, x, y => if y = 0 then some x else none
  | k + 1, x, y => if y = 0 then some x else gdE k y (x - x / y * y)
theorem gdE_f {k : Nat} {x y g : Int64} (h : gdE k x y = some g) (hy : ¬ y = 0) : ∃ q, k = q + 1 ∧ gdE q y (x - x / y * y) = some g := by
  cases k with
  | zero => rw [gdE, if_neg hy] at h; cases h
  | succ k => rw [gdE, if_neg hy] at h; exact ⟨k, rfl, h⟩
theorem gdE_t {k : Nat} {x y g : Int64} (h : gdE k x y = some g) (hy : y = 0) : x = g := by
  cases k with
  | zero => rw [gdE, if_pos hy] at h; exact Option.some.inj h
  | succ k => rw [gdE, if_pos hy] at h; exact Option.some.inj h
def ptV (x y g : Int64) (part : Int32) : Int64 := if part = 0 then x / g else y / g
def pcB (t : Int32) (k : Nat) (i : Nat) (b : Int64) : Int64 := if nI k ≤ nI i then b * (10 - t).toInt64 else b * t.toInt64
def pcF (t n : Int32) (k : Nat) (p : Int64 × Int64) : Int64 × Int64 := (p.1 * (12 - nI k).toInt64 / (nI k + 1).toInt64, if nI k < n then p.2 else p.2 + acc (pcB t k) p.1 12)
def pcA (t n : Int32) : Int64 := (acc (pcF t n) (1, 0) 13).2
def pcS (s : MS) (z : Int64) : MS := (s.1, s.2.1, fun i => if i = 18 then z else if i = 19 then 1000000000000 else s.2.2 i)
theorem pcS_0 (s : MS) (x : Int64) : mu3 (mu3 s 18 x) 19 1000000000000 = pcS s x := by
  refine Prod.ext rfl (Prod.ext rfl (funext fun i => ?_))
  show vp_updL (vp_updL s.2.2 18 x) 19 1000000000000 i = if i = 18 then x else if i = 19 then 1000000000000 else s.2.2 i
  by_cases h : i = 19
  · subst h; rw [pk_uLs]; rfl
  · rw [pk_uLn h]
    by_cases h2 : i = 18
    · subst h2; rw [pk_uLs]; rfl
    · rw [pk_uLn h2, if_neg h2, if_neg h]
theorem pcS_1 (s : MS) (x y : Int64) : mu3 (pcS s x) 18 y = pcS s y := by
  refine Prod.ext rfl (Prod.ext rfl (funext fun i => ?_))
  show vp_updL (pcS s x).2.2 18 y i = if i = 18 then y else if i = 19 then 1000000000000 else s.2.2 i
  by_cases h2 : i = 18
  · subst h2; rw [pk_uLs]; rfl
  · rw [pk_uLn h2, if_neg h2]
    show (if i = 18 then x else if i = 19 then 1000000000000 else s.2.2 i) = _
    rw [if_neg h2]
def pcG (t n : Int32) : Int64 := (gdE 100 (pcA t n) 1000000000000).getD 0
theorem pc_all : ∀ t, t < 9 → ∀ n, n < 13 → gdE 100 (pcA (nI (t + 1)) (nI n)) 1000000000000 = some (pcG (nI (t + 1)) (nI n)) ∧ ¬ pcG (nI (t + 1)) (nI n) = 0 := by decide +kernel
theorem pc_ok {t n : Int32} (ht : iw t 1 9 = true) (hn : iw n 0 12 = true) : gdE 100 (pcA t n) 1000000000000 = some (pcG t n) ∧ ¬ pcG t n = 0 := by
  obtain ⟨n, hn2, rfl⟩ := iw_ex (n := 13) (by decide) (by decide) hn
  obtain ⟨t, ht2, rfl⟩ : ∃ j, j < 9 ∧ t = nI (j + 1) := by
    simp only [iw, Bool.and_eq_true, Bool.not_eq_true', decide_eq_false_iff_not] at ht
    obtain ⟨h1, h2⟩ := ht
    rw [Int32.lt_iff_toInt_lt] at h1 h2
    have h1' : 1 ≤ t.toInt := by simpa using h1
    have h2' : t.toInt ≤ 9 := by simpa using h2
    refine ⟨(t.toInt - 1).toNat, by omega, ?_⟩
    apply Int32.toInt_inj.mp
    rw [nI_toInt (by omega)]
    omega
  exact pc_all t ht2 n hn2
def pcM (t n part : Int32) : Int64 := if iw t 1 9 = true then (if iw n 0 12 = true then (if iw part 0 1 = true then ptV (pcA t n) 1000000000000 (pcG t n) part else 4000000000000000001) else 4000000000000000001) else 4000000000000000001
def pcE (s : MS) (t n part : Int32) : MS := if iw t 1 9 = true then (if iw n 0 12 = true then (if iw part 0 1 = true then pcS s (pcA t n) else s) else s) else s
/-- a drawn number below m -/
def sdV (d m : Int32) : Int32 := (d &&& 2147483647) / 65536 - (d &&& 2147483647) / 65536 / m * m
def sdF (k : Nat) (p : MS × Int32) : MS × Int32 := (mu2 p.1 14 k (sdV (p.2 * 1103515245 + 12345) (if nI k = 0 then 8 else if nI k = 1 then 10 else 6)), p.2 * 1103515245 + 12345)
def sw1 (r : MS) (w : Nat) : MS := mu2 (mu2 r 7 w (nI w)) 6 w (rsI (mu2 r 7 w (nI w)) 0)
def swF (w : Nat) (q : MS × Int32 × Int32) : MS × Int32 × Int32 := (mu1 (sw1 (acc sdF (q.1, q.2.1) 4).1 w) 5 ((sw1 (acc sdF (q.1, q.2.1) 4).1 w).1 5 + 1), (acc sdF (q.1, q.2.1) 4).2, if isTB ((sw1 (acc sdF (q.1, q.2.1) 4).1 w).2.1 6 w) ((sw1 (acc sdF (q.1, q.2.1) 4).1 w).1 0) = true then q.2.2 + 1 else q.2.2)
def soF (nl nw : Nat) (_ : Nat) (q : MS × Int32 × Int32 × Int32) : MS × Int32 × Int32 × Int32 := ((acc swF (mu1 q.1 5 0, q.2.1, q.2.2.1) nw).1, (acc swF (mu1 q.1 5 0, q.2.1, q.2.2.1) nw).2.1, (acc swF (mu1 q.1 5 0, q.2.1, q.2.2.1) nw).2.2, q.2.2.2 + lbc (leftA (acc swF (mu1 q.1 5 0, q.2.1, q.2.2.1) nw).1 nl nw))
def sdZ (s : MS) (z : Int32) : MS × Int32 × Int32 × Int32 := (kpS 17 s, z, 0, 0)
def seM (s : MS) (nl nw : Nat) (n z what : Int32) : Int32 := if iw n 1 20 = true then (if iw what 0 1 = true then (if what = 0 then (acc (soF nl nw) (sdZ s z) (tn n)).2.2.1 else (acc (soF nl nw) (sdZ s z) (tn n)).2.2.2) else -1) else -1
def seS (s : MS) (nl nw : Nat) (n z what : Int32) : MS := if iw n 1 20 = true then (if iw what 0 1 = true then agS 17 (acc (soF nl nw) (sdZ s z) (tn n)).1 else s) else s
def mJ (s : MS) (nl nw : Nat) : Prop := s.1 1 = nI nl ∧ nl ≤ 6 ∧ s.1 3 = nI nw ∧ nw ≤ 5
theorem sd_mI {nl nw w : Nat} {z : MS × Int32} : ∀ k, mI z.1 nl nw w → mI (acc sdF z k).1 nl nw w
  | 0, h => h
  | k + 1, h => sd_mI k h
theorem sw_mI {nl nw w : Nat} {q : MS × Int32 × Int32} (h : mI q.1 nl nw w) (hw : w < 10) : mI (swF w q).1 nl nw (w + 1) := by
  obtain ⟨h1, h2, h3, h4, h5, h6⟩ := sd_mI (z := (q.1, q.2.1)) 4 h
  refine ⟨h1, h2, h3, h4, ?_, by omega⟩
  show (acc sdF (q.1, q.2.1) 4).1.1 5 + 1 = _
  rw [h5]
  exact nI_1 _
theorem sw_all {nl nw : Nat} {q : MS × Int32 × Int32} (h : mI q.1 nl nw 0) : ∀ w, w ≤ nw → mI (acc swF q w).1 nl nw w
  | 0, _ => h
  | w + 1, hw => sw_mI (sw_all h w (by omega)) (by have := h.2.2.2.1; omega)
theorem so_mJ {nl nw i : Nat} {q : MS × Int32 × Int32 × Int32} (h : mJ q.1 nl nw) : mJ (soF nl nw i q).1 nl nw := by
  have r := sw_all (q := (mu1 q.1 5 0, q.2.1, q.2.2.1)) (nl := nl) (nw := nw) ⟨h.1, h.2.1, h.2.2.1, h.2.2.2, rfl, by omega⟩ nw (Nat.le_refl _)
  exact ⟨r.1, r.2.1, r.2.2.1, r.2.2.2.1⟩
theorem so_all {nl nw : Nat} {q : MS × Int32 × Int32 × Int32} (h : mJ q.1 nl nw) : ∀ i, mJ (acc (soF nl nw) q i).1 nl nw
  | 0 => h
  | i + 1 => so_mJ (so_all h i)
theorem iw20 {x : Int32} (h : iw x 1 20 = true) : ∃ j, j ≤ 20 ∧ x = nI j := by
  simp only [iw, Bool.and_eq_true, Bool.not_eq_true', decide_eq_false_iff_not] at h
  obtain ⟨h1, h2⟩ := h
  rw [Int32.lt_iff_toInt_lt] at h1 h2
  have h1' : 1 ≤ x.toInt := by simpa using h1
  have h2' : x.toInt ≤ 20 := by simpa using h2
  refine ⟨x.toInt.toNat, by omega, ?_⟩
  apply Int32.toInt_inj.mp
  rw [nI_toInt (by omega)]
  omega
theorem kp_mJ {k nl nw ns : Nat} {s : MS} (h : mI s nl nw ns) : mJ (kpS k s) nl nw := ⟨h.1, h.2.1, h.2.2.1, h.2.2.2.1⟩
theorem cm_X12_copy {G : ab_G} (hG : ab_GG G) {A : List ab_E} {s : MS} {B : List ab_E} (hA : A.length = 42) {d : Int32} {i : Int32} {e : Int32} {j : Int32} {n : Int32} (hSh : shI s) : ab_CM G mX12_copy [.ref 42, .int d, .int i, .int e, .int j, .int n] (mH A s B) (some (.int (coM s d i e j n))) (mH A (coS s d i e j n) B) := by
  refine ab_meth (l0 := [(0, .ref 42), (1, .int d), (2, .int i), (3, .int e), (4, .int j), (5, .int n)]) hG (by decide +kernel) rfl (Nat.le_of_ble_eq_true rfl) mH_lenE mH_szE (fun X hX hF => ?_)
  refine ab_iload_n hX dX12_copy_0 mm1 ?_
  refine ab_callS1r hX dX12_copy_1 ss_X12_copy_107 (cm_X12_isShelf hG) (Nat.le_of_ble_eq_true rfl) ?_
  refine ab_ifeqB (tgt := 14) hX dX12_copy_4 (by decide) (fun h_1 => ?_) (fun h_1 => ?_)
  ·
    refine ab_iconst (v := (-1)) hX dX12_copy_14 (by decide) ?_
    exact ab_ireturn hX hF dX12_copy_15 rfl (by rfl) (congrArg some (congrArg Value.int (by first | rfl | (simp only [coM, i2_0, h_1, ↓reduceIte, Bool.false_eq_true]; done) | (simp only [coM, i2_0, h_1, ↓reduceIte, Bool.false_eq_true]; rfl) | (unfold coM; (repeat' split) <;> first | rfl | contradiction | (simp_all; done))))) (by first | rfl | (simp only [coS, i2_0, h_1, ↓reduceIte, Bool.false_eq_true]; done) | (simp only [coS, i2_0, h_1, ↓reduceIte, Bool.false_eq_true]; rfl))
  ·
    obtain ⟨jd, hjd, rfl⟩ := iw8 h_1
    have hjdc := tn_nI (j := jd) (by omega)
    refine ab_iload_n hX dX12_copy_7 mm3 ?_
    refine ab_callS1r hX dX12_copy_8 ss_X12_copy_107 (cm_X12_isShelf hG) (Nat.le_of_ble_eq_true rfl) ?_
    refine ab_ifneB (tgt := 16) hX dX12_copy_11 (by decide) (fun h_2 => ?_) (fun h_2 => ?_)
    ·
      obtain ⟨je, hje, rfl⟩ := iw8 h_2
      have hjec := tn_nI (j := je) (by omega)
      refine ab_aload_n hX dX12_copy_16 mm0 ?_
      refine ab_getfield hX dX12_copy_17 (fs_X12_22_13 rfl) (mg_o hA) rfl ?_
      refine ab_iload_n hX dX12_copy_20 mm1 ?_
      refine ab_iald (i := jd) hX dX12_copy_21 (mg_8 hA) rfl hjd (by decide) ?_
      refine ab_ifeq (tgt := 34) hX dX12_copy_22 (by decide) (fun h_3 => ?_) (fun h_3 => ?_)
      ·
        refine ab_bipush (v := (-11)) hX dX12_copy_34 (by decide) ?_
        exact ab_ireturn hX hF dX12_copy_36 rfl (by rfl) (congrArg some (congrArg Value.int (by first | rfl | (simp only [coM, i2_0, h_1, hjdc, h_2, hjec, h_3, ↓reduceIte, Bool.false_eq_true]; done) | (simp only [coM, i2_0, h_1, hjdc, h_2, hjec, h_3, ↓reduceIte, Bool.false_eq_true]; rfl) | (unfold coM; (repeat' split) <;> first | rfl | contradiction | (simp_all; done))))) (by first | rfl | (simp only [coS, i2_0, h_1, hjdc, h_2, hjec, h_3, ↓reduceIte, Bool.false_eq_true]; done) | (simp only [coS, i2_0, h_1, hjdc, h_2, hjec, h_3, ↓reduceIte, Bool.false_eq_true]; rfl))
      ·
        refine ab_aload_n hX dX12_copy_25 mm0 ?_
        refine ab_getfield hX dX12_copy_26 (fs_X12_22_13 rfl) (mg_o hA) rfl ?_
        refine ab_iload_n hX dX12_copy_29 mm3 ?_
        refine ab_iald (i := je) hX dX12_copy_30 (mg_8 hA) rfl hje (by decide) ?_
        refine ab_ifne (tgt := 37) hX dX12_copy_31 (by decide) (fun h_4 => ?_) (fun h_4 => ?_)
        ·
          refine ab_aload_n hX dX12_copy_37 mm0 ?_
          refine ab_getfield hX dX12_copy_38 (fs_X12_22_13 rfl) (mg_o hA) rfl ?_
          refine ab_iload_n hX dX12_copy_41 mm1 ?_
          refine ab_iald (i := jd) hX dX12_copy_42 (mg_8 hA) rfl hjd (by decide) ?_
          refine ab_iconst (v := 2) hX dX12_copy_43 (by decide) ?_
          refine ab_icmpne (tgt := 72) hX dX12_copy_44 (by decide) (fun h_5 => ?_) (fun h_5 => ?_)
          ·
            refine ab_bipush (v := (-12)) hX dX12_copy_72 (by decide) ?_
            exact ab_ireturn hX hF dX12_copy_74 rfl (by rfl) (congrArg some (congrArg Value.int (by first | rfl | (simp only [coM, i2_0, h_1, hjdc, h_2, hjec, h_3, h_4, h_5, ↓reduceIte, Bool.false_eq_true]; done) | (simp only [coM, i2_0, h_1, hjdc, h_2, hjec, h_3, h_4, h_5, ↓reduceIte, Bool.false_eq_true]; rfl) | (unfold coM; (repeat' split) <;> first | rfl | contradiction | (simp_all; done))))) (by first | rfl | (simp only [coS, i2_0, h_1, hjdc, h_2, hjec, h_3, h_4, h_5, ↓reduceIte, Bool.false_eq_true]; done) | (simp only [coS, i2_0, h_1, hjdc, h_2, hjec, h_3, h_4, h_5, ↓reduceIte, Bool.false_eq_true]; rfl))
          ·
            obtain ⟨nd, hnd, hsd⟩ := shI_row hSh hjd h_5
            refine ab_aload_n hX dX12_copy_47 mm0 ?_
            refine ab_getfield hX dX12_copy_48 (fs_X12_22_13 rfl) (mg_o hA) rfl ?_
            refine ab_iload_n hX dX12_copy_51 mm3 ?_
            refine ab_iald (i := je) hX dX12_copy_52 (mg_8 hA) rfl hje (by decide) ?_
            refine ab_iconst (v := 2) hX dX12_copy_53 (by decide) ?_
            refine ab_icmpne (tgt := 72) hX dX12_copy_54 (by decide) (fun h_6 => ?_) (fun h_6 => ?_)
            ·
              refine ab_bipush (v := (-12)) hX dX12_copy_72 (by decide) ?_
              exact ab_ireturn hX hF dX12_copy_74 rfl (by rfl) (congrArg some (congrArg Value.int (by first | rfl | (simp only [coM, i2_0, h_1, hjdc, h_2, hjec, h_3, h_4, h_5, h_6, ↓reduceIte, Bool.false_eq_true]; done) | (simp only [coM, i2_0, h_1, hjdc, h_2, hjec, h_3, h_4, h_5, h_6, ↓reduceIte, Bool.false_eq_true]; rfl) | (unfold coM; (repeat' split) <;> first | rfl | contradiction | (simp_all; done))))) (by first | rfl | (simp only [coS, i2_0, h_1, hjdc, h_2, hjec, h_3, h_4, h_5, h_6, ↓reduceIte, Bool.false_eq_true]; done) | (simp only [coS, i2_0, h_1, hjdc, h_2, hjec, h_3, h_4, h_5, h_6, ↓reduceIte, Bool.false_eq_true]; rfl))
            ·
              obtain ⟨ne, hne, hse⟩ := shI_row hSh hje h_6
              refine ab_aload_n hX dX12_copy_57 mm0 ?_
              refine ab_getfield hX dX12_copy_58 (fs_X12_25_13 rfl) (mg_o hA) rfl ?_
              refine ab_iload_n hX dX12_copy_61 mm1 ?_
              refine ab_iald (i := jd) hX dX12_copy_62 (mg_9 hA) rfl hjd (by decide) ?_
              refine ab_aload_n hX dX12_copy_63 mm0 ?_
              refine ab_getfield hX dX12_copy_64 (fs_X12_25_13 rfl) (mg_o hA) rfl ?_
              refine ab_iload_n hX dX12_copy_67 mm3 ?_
              refine ab_iald (i := je) hX dX12_copy_68 (mg_9 hA) rfl hje (by decide) ?_
              refine ab_icmpeq (tgt := 75) hX dX12_copy_69 (by decide) (fun h_7 => ?_) (fun h_7 => ?_)
              ·
                refine ab_iload hX dX12_copy_75 mm5 ?_
                refine ab_iflt (tgt := 124) hX dX12_copy_77 (by decide) (fun h_8 => ?_) (fun h_8 => ?_)
                ·
                  refine ab_bipush (v := (-13)) hX dX12_copy_124 (by decide) ?_
                  exact ab_ireturn hX hF dX12_copy_126 rfl (by rfl) (congrArg some (congrArg Value.int (by first | rfl | (simp only [coM, i2_0, h_1, hjdc, h_2, hjec, h_3, h_4, h_5, h_6, h_7, h_8, ↓reduceIte, Bool.false_eq_true]; done) | (simp only [coM, i2_0, h_1, hjdc, h_2, hjec, h_3, h_4, h_5, h_6, h_7, h_8, ↓reduceIte, Bool.false_eq_true]; rfl) | (unfold coM; (repeat' split) <;> first | rfl | contradiction | (simp_all; done))))) (by first | rfl | (simp only [coS, i2_0, h_1, hjdc, h_2, hjec, h_3, h_4, h_5, h_6, h_7, h_8, ↓reduceIte, Bool.false_eq_true]; done) | (simp only [coS, i2_0, h_1, hjdc, h_2, hjec, h_3, h_4, h_5, h_6, h_7, h_8, ↓reduceIte, Bool.false_eq_true]; rfl))
                ·
                  obtain ⟨n0, hn0, rfl⟩ := nI_of h_8
                  have hn0c := tn_nI (j := n0) (by omega)
                  refine ab_iload_n hX dX12_copy_80 mm2 ?_
                  refine ab_iflt (tgt := 124) hX dX12_copy_81 (by decide) (fun h_9 => ?_) (fun h_9 => ?_)
                  ·
                    refine ab_bipush (v := (-13)) hX dX12_copy_124 (by decide) ?_
                    exact ab_ireturn hX hF dX12_copy_126 rfl (by rfl) (congrArg some (congrArg Value.int (by first | rfl | (simp only [coM, i2_0, h_1, hjdc, h_2, hjec, h_3, h_4, h_5, h_6, h_7, h_8, hn0c, h_9, ↓reduceIte, Bool.false_eq_true]; done) | (simp only [coM, i2_0, h_1, hjdc, h_2, hjec, h_3, h_4, h_5, h_6, h_7, h_8, hn0c, h_9, ↓reduceIte, Bool.false_eq_true]; rfl) | (unfold coM; (repeat' split) <;> first | rfl | contradiction | (simp_all; done))))) (by first | rfl | (simp only [coS, i2_0, h_1, hjdc, h_2, hjec, h_3, h_4, h_5, h_6, h_7, h_8, hn0c, h_9, ↓reduceIte, Bool.false_eq_true]; done) | (simp only [coS, i2_0, h_1, hjdc, h_2, hjec, h_3, h_4, h_5, h_6, h_7, h_8, hn0c, h_9, ↓reduceIte, Bool.false_eq_true]; rfl))
                  ·
                    obtain ⟨i0, hi0, rfl⟩ := nI_of h_9
                    have hi0c := tn_nI (j := i0) (by omega)
                    refine ab_iload hX dX12_copy_84 mm4 ?_
                    refine ab_iflt (tgt := 124) hX dX12_copy_86 (by decide) (fun h_10 => ?_) (fun h_10 => ?_)
                    ·
                      refine ab_bipush (v := (-13)) hX dX12_copy_124 (by decide) ?_
                      exact ab_ireturn hX hF dX12_copy_126 rfl (by rfl) (congrArg some (congrArg Value.int (by first | rfl | (simp only [coM, i2_0, h_1, hjdc, h_2, hjec, h_3, h_4, h_5, h_6, h_7, h_8, hn0c, h_9, hi0c, h_10, ↓reduceIte, Bool.false_eq_true]; done) | (simp only [coM, i2_0, h_1, hjdc, h_2, hjec, h_3, h_4, h_5, h_6, h_7, h_8, hn0c, h_9, hi0c, h_10, ↓reduceIte, Bool.false_eq_true]; rfl) | (unfold coM; (repeat' split) <;> first | rfl | contradiction | (simp_all; done))))) (by first | rfl | (simp only [coS, i2_0, h_1, hjdc, h_2, hjec, h_3, h_4, h_5, h_6, h_7, h_8, hn0c, h_9, hi0c, h_10, ↓reduceIte, Bool.false_eq_true]; done) | (simp only [coS, i2_0, h_1, hjdc, h_2, hjec, h_3, h_4, h_5, h_6, h_7, h_8, hn0c, h_9, hi0c, h_10, ↓reduceIte, Bool.false_eq_true]; rfl))
                    ·
                      obtain ⟨j0, hj0, rfl⟩ := nI_of h_10
                      have hj0c := tn_nI (j := j0) (by omega)
                      refine ab_iload_n hX dX12_copy_89 mm2 ?_
                      refine ab_i2l hX dX12_copy_90 ?_
                      refine ab_iload hX dX12_copy_91 mm5 ?_
                      refine ab_i2l hX dX12_copy_93 ?_
                      refine ab_ladd hX dX12_copy_94 ?_
                      refine ab_aload_n hX dX12_copy_95 mm0 ?_
                      refine ab_getfield hX dX12_copy_96 (fs_X12_28_13 rfl) (mg_o hA) rfl ?_
                      refine ab_iload_n hX dX12_copy_99 mm1 ?_
                      refine ab_iald (i := jd) hX dX12_copy_100 (mg_10 hA) rfl hjd (by decide) ?_
                      refine ab_i2l hX dX12_copy_101 ?_
                      refine ab_lcmp hX dX12_copy_102 ?_
                      refine ab_ifgt (tgt := 124) hX dX12_copy_103 (by decide) (fun h_11 => ?_) (fun h_11 => ?_)
                      ·
                        refine ab_bipush (v := (-13)) hX dX12_copy_124 (by decide) ?_
                        exact ab_ireturn hX hF dX12_copy_126 rfl (by rfl) (congrArg some (congrArg Value.int (by first | rfl | (simp only [coM, i2_0, h_1, hjdc, h_2, hjec, h_3, h_4, h_5, h_6, h_7, h_8, hn0c, h_9, hi0c, h_10, hj0c, h_11, ↓reduceIte, Bool.false_eq_true]; done) | (simp only [coM, i2_0, h_1, hjdc, h_2, hjec, h_3, h_4, h_5, h_6, h_7, h_8, hn0c, h_9, hi0c, h_10, hj0c, h_11, ↓reduceIte, Bool.false_eq_true]; rfl) | (unfold coM; (repeat' split) <;> first | rfl | contradiction | (simp_all; done))))) (by first | rfl | (simp only [coS, i2_0, h_1, hjdc, h_2, hjec, h_3, h_4, h_5, h_6, h_7, h_8, hn0c, h_9, hi0c, h_10, hj0c, h_11, ↓reduceIte, Bool.false_eq_true]; done) | (simp only [coS, i2_0, h_1, hjdc, h_2, hjec, h_3, h_4, h_5, h_6, h_7, h_8, hn0c, h_9, hi0c, h_10, hj0c, h_11, ↓reduceIte, Bool.false_eq_true]; rfl))
                      ·
                        have hle1 := cpB hi0 hn0 hnd hsd h_11
                        refine ab_iload hX dX12_copy_106 mm4 ?_
                        refine ab_i2l hX dX12_copy_108 ?_
                        refine ab_iload hX dX12_copy_109 mm5 ?_
                        refine ab_i2l hX dX12_copy_111 ?_
                        refine ab_ladd hX dX12_copy_112 ?_
                        refine ab_aload_n hX dX12_copy_113 mm0 ?_
                        refine ab_getfield hX dX12_copy_114 (fs_X12_28_13 rfl) (mg_o hA) rfl ?_
                        refine ab_iload_n hX dX12_copy_117 mm3 ?_
                        refine ab_iald (i := je) hX dX12_copy_118 (mg_10 hA) rfl hje (by decide) ?_
                        refine ab_i2l hX dX12_copy_119 ?_
                        refine ab_lcmp hX dX12_copy_120 ?_
                        refine ab_ifle (tgt := 127) hX dX12_copy_121 (by decide) (fun h_12 => ?_) (fun h_12 => ?_)
                        ·
                          have hle2 := cpB0 hj0 hn0 hne hse h_12
                          refine ab_iload_n hX dX12_copy_127 mm1 ?_
                          refine ab_iload_n hX dX12_copy_128 mm3 ?_
                          refine ab_icmpne (tgt := 187) hX dX12_copy_129 (by decide) (fun h_13 => ?_) (fun h_13 => ?_)
                          ·
                            refine ab_iconst (v := 0) hX dX12_copy_187 (by decide) ?_
                            refine ab_istore hX dX12_copy_188 (by decide) rfl ?_
                            have L190 : ∀ (k190_ : Nat) (q : Nat) (hq_ : q ≤ n0), k190_ = n0 - q → ab_WA G mX12_copy X 190 [(0, .ref 42), (1, .int (nI jd)), (2, .int (nI i0)), (3, .int (nI je)), (4, .int (nI j0)), (5, .int (nI n0)), (6, .int (nI q))] [] (mH A (acc (cpU (100 * je + j0) (100 * jd + i0)) s q) B) := by
                              intro k190_
                              induction k190_ using Nat.strongRecOn with
                              | _ k190_ ih190 =>
                                intro q hq_ hk190_
                                refine ab_iload hX dX12_copy_190 mm6 ?_
                                refine ab_iload hX dX12_copy_192 mm5 ?_
                                refine ab_icmpge (tgt := 232) hX dX12_copy_194 (by decide) (fun h_14 => ?_) (fun h_14 => ?_)
                                ·
                                  have hx_ := ctE (N := n0) h_14 (by rfl) (by omega) (by omega)
                                  obtain rfl : n0 = q := by omega
                                  refine ab_iload hX dX12_copy_232 mm5 ?_
                                  exact ab_ireturn hX hF dX12_copy_234 rfl (by rfl) (congrArg some (congrArg Value.int (by first | rfl | (simp only [coM, i2_0, h_1, hjdc, h_2, hjec, h_3, h_4, h_5, h_6, h_7, h_8, hn0c, h_9, hi0c, h_10, hj0c, h_11, h_12, h_13, h_14, ↓reduceIte, Bool.false_eq_true]; done) | (simp only [coM, i2_0, h_1, hjdc, h_2, hjec, h_3, h_4, h_5, h_6, h_7, h_8, hn0c, h_9, hi0c, h_10, hj0c, h_11, h_12, h_13, h_14, ↓reduceIte, Bool.false_eq_true]; rfl) | (unfold coM; (repeat' split) <;> first | rfl | contradiction | (simp_all; done))))) (by simp only [coS, i2_0, h_1, hjdc, h_2, hjec, h_3, h_4, h_5, h_6, h_7, h_8, hn0c, h_9, hi0c, h_10, hj0c, h_11, h_12, h_13, h_14, ↓reduceIte, Bool.false_eq_true]; first | done | rfl | exact congrArg (fun z => mH A z B) hr)
                                ·
                                  have hltq_ := ctL (N := n0) h_14 (by rfl) (by omega) (by omega)
                                  refine ab_aload_n hX dX12_copy_197 mm0 ?_
                                  refine ab_getfield hX dX12_copy_198 (fs_X12_31_13 rfl) (mg_o hA) rfl ?_
                                  refine ab_bipush (v := 100) hX dX12_copy_201 (by decide) ?_
                                  refine ab_iload_n hX dX12_copy_203 mm3 ?_
                                  refine ab_imul hX dX12_copy_204 ?_
                                  refine ab_iload hX dX12_copy_205 mm4 ?_
                                  refine ab_iadd hX dX12_copy_207 ?_
                                  refine ab_iload hX dX12_copy_208 mm6 ?_
                                  refine ab_iadd hX dX12_copy_210 ?_
                                  refine ab_aload_n hX dX12_copy_211 mm0 ?_
                                  refine ab_getfield hX dX12_copy_212 (fs_X12_31_13 rfl) (mg_o hA) rfl ?_
                                  refine ab_bipush (v := 100) hX dX12_copy_215 (by decide) ?_
                                  refine ab_iload_n hX dX12_copy_217 mm1 ?_
                                  refine ab_imul hX dX12_copy_218 ?_
                                  refine ab_iload_n hX dX12_copy_219 mm2 ?_
                                  refine ab_iadd hX dX12_copy_220 ?_
                                  refine ab_iload hX dX12_copy_221 mm6 ?_
                                  refine ab_iadd hX dX12_copy_223 ?_
                                  refine ab_iald (i := (100 * jd + i0 + q)) hX dX12_copy_224 (mg_11 hA) (ix100a jd i0 q) (by omega) (by decide) ?_
                                  refine ab_iast (i := (100 * je + j0 + q)) hX dX12_copy_225 (mg_11 hA) (ix100a je j0 q) (by omega) (by decide) (mx_11 hA) ?_
                                  refine ab_iinc hX dX12_copy_226 mm6 rfl (by decide) rfl ?_
                                  refine ab_goto (tgt := 190) hX dX12_copy_229 (by decide) ?_
                                  exact ab_pm7 mm1 (mmv2 (congrArg Value.int (by first | rfl | exact (nI_1 _).symm))) (mmv3 (congrArg Value.int (by first | rfl | exact (nI_1 _).symm))) (mmv4 (congrArg Value.int (by first | rfl | exact (nI_1 _).symm))) (mmv5 (congrArg Value.int (by first | rfl | exact (nI_1 _).symm))) (mmv6 (congrArg Value.int (by first | rfl | exact (nI_1 _).symm))) (mmv0 (congrArg Value.int (by first | rfl | exact (nI_1 _).symm))) (ih190 (_) (by omega) (q + 1) (by omega) rfl)
                            exact ab_pm7 mm1 (mmv2 (congrArg Value.int (by rfl))) (mmv3 (congrArg Value.int (by rfl))) (mmv4 (congrArg Value.int (by rfl))) (mmv5 (congrArg Value.int (by rfl))) (mmv6 (congrArg Value.int (by rfl))) (mmv0 (congrArg Value.int (by rfl))) (L190 _ 0 (by omega) rfl)
                          ·
                            have hdec := eq_true h_13
                            refine ab_iload_n hX dX12_copy_132 mm2 ?_
                            refine ab_iload hX dX12_copy_133 mm4 ?_
                            refine ab_icmpge (tgt := 187) hX dX12_copy_135 (by decide) (fun h_15 => ?_) (fun h_15 => ?_)
                            ·
                              refine ab_iconst (v := 0) hX dX12_copy_187 (by decide) ?_
                              refine ab_istore hX dX12_copy_188 (by decide) rfl ?_
                              have L190 : ∀ (k190_ : Nat) (q : Nat) (hq_ : q ≤ n0), k190_ = n0 - q → ab_WA G mX12_copy X 190 [(0, .ref 42), (1, .int (nI jd)), (2, .int (nI i0)), (3, .int (nI je)), (4, .int (nI j0)), (5, .int (nI n0)), (6, .int (nI q))] [] (mH A (acc (cpU (100 * je + j0) (100 * jd + i0)) s q) B) := by
                                intro k190_
                                induction k190_ using Nat.strongRecOn with
                                | _ k190_ ih190 =>
                                  intro q hq_ hk190_
                                  refine ab_iload hX dX12_copy_190 mm6 ?_
                                  refine ab_iload hX dX12_copy_192 mm5 ?_
                                  refine ab_icmpge (tgt := 232) hX dX12_copy_194 (by decide) (fun h_16 => ?_) (fun h_16 => ?_)
                                  ·
                                    have hx_ := ctE (N := n0) h_16 (by rfl) (by omega) (by omega)
                                    obtain rfl : n0 = q := by omega
                                    refine ab_iload hX dX12_copy_232 mm5 ?_
                                    exact ab_ireturn hX hF dX12_copy_234 rfl (by rfl) (congrArg some (congrArg Value.int (by first | rfl | (simp only [coM, i2_0, h_1, hjdc, h_2, hjec, h_3, h_4, h_5, h_6, h_7, h_8, hn0c, h_9, hi0c, h_10, hj0c, h_11, h_12, hdec, h_15, h_16, ↓reduceIte, Bool.false_eq_true]; done) | (simp only [coM, i2_0, h_1, hjdc, h_2, hjec, h_3, h_4, h_5, h_6, h_7, h_8, hn0c, h_9, hi0c, h_10, hj0c, h_11, h_12, hdec, h_15, h_16, ↓reduceIte, Bool.false_eq_true]; rfl) | (unfold coM; (repeat' split) <;> first | rfl | contradiction | (simp_all; done))))) (by simp only [coS, i2_0, h_1, hjdc, h_2, hjec, h_3, h_4, h_5, h_6, h_7, h_8, hn0c, h_9, hi0c, h_10, hj0c, h_11, h_12, hdec, h_15, h_16, ↓reduceIte, Bool.false_eq_true]; first | done | rfl | exact congrArg (fun z => mH A z B) hr)
                                  ·
                                    have hltq_ := ctL (N := n0) h_16 (by rfl) (by omega) (by omega)
                                    refine ab_aload_n hX dX12_copy_197 mm0 ?_
                                    refine ab_getfield hX dX12_copy_198 (fs_X12_31_13 rfl) (mg_o hA) rfl ?_
                                    refine ab_bipush (v := 100) hX dX12_copy_201 (by decide) ?_
                                    refine ab_iload_n hX dX12_copy_203 mm3 ?_
                                    refine ab_imul hX dX12_copy_204 ?_
                                    refine ab_iload hX dX12_copy_205 mm4 ?_
                                    refine ab_iadd hX dX12_copy_207 ?_
                                    refine ab_iload hX dX12_copy_208 mm6 ?_
                                    refine ab_iadd hX dX12_copy_210 ?_
                                    refine ab_aload_n hX dX12_copy_211 mm0 ?_
                                    refine ab_getfield hX dX12_copy_212 (fs_X12_31_13 rfl) (mg_o hA) rfl ?_
                                    refine ab_bipush (v := 100) hX dX12_copy_215 (by decide) ?_
                                    refine ab_iload_n hX dX12_copy_217 mm1 ?_
                                    refine ab_imul hX dX12_copy_218 ?_
                                    refine ab_iload_n hX dX12_copy_219 mm2 ?_
                                    refine ab_iadd hX dX12_copy_220 ?_
                                    refine ab_iload hX dX12_copy_221 mm6 ?_
                                    refine ab_iadd hX dX12_copy_223 ?_
                                    refine ab_iald (i := (100 * jd + i0 + q)) hX dX12_copy_224 (mg_11 hA) (ix100a jd i0 q) (by omega) (by decide) ?_
                                    refine ab_iast (i := (100 * je + j0 + q)) hX dX12_copy_225 (mg_11 hA) (ix100a je j0 q) (by omega) (by decide) (mx_11 hA) ?_
                                    refine ab_iinc hX dX12_copy_226 mm6 rfl (by decide) rfl ?_
                                    refine ab_goto (tgt := 190) hX dX12_copy_229 (by decide) ?_
                                    exact ab_pm7 mm1 (mmv2 (congrArg Value.int (by first | rfl | exact (nI_1 _).symm))) (mmv3 (congrArg Value.int (by first | rfl | exact (nI_1 _).symm))) (mmv4 (congrArg Value.int (by first | rfl | exact (nI_1 _).symm))) (mmv5 (congrArg Value.int (by first | rfl | exact (nI_1 _).symm))) (mmv6 (congrArg Value.int (by first | rfl | exact (nI_1 _).symm))) (mmv0 (congrArg Value.int (by first | rfl | exact (nI_1 _).symm))) (ih190 (_) (by omega) (q + 1) (by omega) rfl)
                              exact ab_pm7 mm1 (mmv2 (congrArg Value.int (by rfl))) (mmv3 (congrArg Value.int (by rfl))) (mmv4 (congrArg Value.int (by rfl))) (mmv5 (congrArg Value.int (by rfl))) (mmv6 (congrArg Value.int (by rfl))) (mmv0 (congrArg Value.int (by rfl))) (L190 _ 0 (by omega) rfl)
                            ·
                              refine ab_iload hX dX12_copy_138 mm5 ?_
                              refine ab_iconst (v := 1) hX dX12_copy_140 (by decide) ?_
                              refine ab_isub hX dX12_copy_141 ?_
                              refine ab_istore hX dX12_copy_142 (by decide) rfl ?_
                              have L144 : ∀ (k144_ : Nat) (m : Nat) (s2 : MS) (hm_ : m ≤ n0) (hr : cpD (100 * je + j0) (100 * jd + i0) m s2 = cpD (100 * je + j0) (100 * jd + i0) n0 s), k144_ = m → ab_WA G mX12_copy X 144 [(0, .ref 42), (1, .int (nI jd)), (2, .int (nI i0)), (3, .int (nI je)), (4, .int (nI j0)), (5, .int (nI n0)), (6, .int (nI m - 1))] [] (mH A s2 B) := by
                                intro k144_
                                induction k144_ using Nat.strongRecOn with
                                | _ k144_ ih144 =>
                                  intro m s2 hm_ hr hk144_
                                  refine ab_iload hX dX12_copy_144 mm6 ?_
                                  refine ab_iflt (tgt := 184) hX dX12_copy_146 (by decide) (fun h_17 => ?_) (fun h_17 => ?_)
                                  ·
                                    obtain rfl : m = 0 := by cases m with | zero => rfl | succ q => rw [nI_pred] at h_17; exact absurd h_17 (nI_pos (by omega))
                                    refine ab_goto (tgt := 232) hX dX12_copy_184 (by decide) ?_
                                    refine ab_iload hX dX12_copy_232 mm5 ?_
                                    exact ab_ireturn hX hF dX12_copy_234 rfl (by rfl) (congrArg some (congrArg Value.int (by first | rfl | (simp only [coM, i2_0, h_1, hjdc, h_2, hjec, h_3, h_4, h_5, h_6, h_7, h_8, hn0c, h_9, hi0c, h_10, hj0c, h_11, h_12, hdec, h_15, h_17, ↓reduceIte, Bool.false_eq_true]; done) | (simp only [coM, i2_0, h_1, hjdc, h_2, hjec, h_3, h_4, h_5, h_6, h_7, h_8, hn0c, h_9, hi0c, h_10, hj0c, h_11, h_12, hdec, h_15, h_17, ↓reduceIte, Bool.false_eq_true]; rfl) | (unfold coM; (repeat' split) <;> first | rfl | contradiction | (simp_all; done))))) (by simp only [coS, i2_0, h_1, hjdc, h_2, hjec, h_3, h_4, h_5, h_6, h_7, h_8, hn0c, h_9, hi0c, h_10, hj0c, h_11, h_12, hdec, h_15, h_17, ↓reduceIte, Bool.false_eq_true]; first | done | rfl | exact congrArg (fun z => mH A z B) hr)
                                  ·
                                    obtain ⟨m2, rfl⟩ : ∃ m2, m = m2 + 1 := by cases m with | zero => exact absurd (by decide) h_17 | succ q => exact ⟨q, rfl⟩
                                    refine ab_aload_n hX dX12_copy_149 mm0 ?_
                                    refine ab_getfield hX dX12_copy_150 (fs_X12_31_13 rfl) (mg_o hA) rfl ?_
                                    refine ab_bipush (v := 100) hX dX12_copy_153 (by decide) ?_
                                    refine ab_iload_n hX dX12_copy_155 mm3 ?_
                                    refine ab_imul hX dX12_copy_156 ?_
                                    refine ab_iload hX dX12_copy_157 mm4 ?_
                                    refine ab_iadd hX dX12_copy_159 ?_
                                    refine ab_iload hX dX12_copy_160 mm6 ?_
                                    refine ab_iadd hX dX12_copy_162 ?_
                                    refine ab_aload_n hX dX12_copy_163 mm0 ?_
                                    refine ab_getfield hX dX12_copy_164 (fs_X12_31_13 rfl) (mg_o hA) rfl ?_
                                    refine ab_bipush (v := 100) hX dX12_copy_167 (by decide) ?_
                                    refine ab_iload_n hX dX12_copy_169 mm1 ?_
                                    refine ab_imul hX dX12_copy_170 ?_
                                    refine ab_iload_n hX dX12_copy_171 mm2 ?_
                                    refine ab_iadd hX dX12_copy_172 ?_
                                    refine ab_iload hX dX12_copy_173 mm6 ?_
                                    refine ab_iadd hX dX12_copy_175 ?_
                                    refine ab_iald (i := (100 * jd + i0 + m2)) hX dX12_copy_176 (mg_11 hA) (ix100d jd i0 m2) (by omega) (by decide) ?_
                                    refine ab_iast (i := (100 * je + j0 + m2)) hX dX12_copy_177 (mg_11 hA) (ix100d je j0 m2) (by omega) (by decide) (mx_11 hA) ?_
                                    refine ab_iinc hX dX12_copy_178 mm6 rfl (by decide) rfl ?_
                                    refine ab_goto (tgt := 144) hX dX12_copy_181 (by decide) ?_
                                    exact ab_pm7 mm1 (mmv2 (congrArg Value.int (by rfl))) (mmv3 (congrArg Value.int (by rfl))) (mmv4 (congrArg Value.int (by rfl))) (mmv5 (congrArg Value.int (by rfl))) (mmv6 (congrArg Value.int (by rfl))) (mmv0 (congrArg Value.int (by first | exact (dn_1 _).symm | exact dn_1 _))) (ih144 (_) (by omega) m2 _ (by omega) (by rw [← hr, cpD_s]) rfl)
                              exact ab_pm7 mm1 (mmv2 (congrArg Value.int (by rfl))) (mmv3 (congrArg Value.int (by rfl))) (mmv4 (congrArg Value.int (by rfl))) (mmv5 (congrArg Value.int (by rfl))) (mmv6 (congrArg Value.int (by rfl))) (mmv0 (congrArg Value.int (by rfl))) (L144 _ n0 s (Nat.le_refl _) rfl rfl)
                        ·
                          refine ab_bipush (v := (-13)) hX dX12_copy_124 (by decide) ?_
                          exact ab_ireturn hX hF dX12_copy_126 rfl (by rfl) (congrArg some (congrArg Value.int (by first | rfl | (simp only [coM, i2_0, h_1, hjdc, h_2, hjec, h_3, h_4, h_5, h_6, h_7, h_8, hn0c, h_9, hi0c, h_10, hj0c, h_11, h_12, ↓reduceIte, Bool.false_eq_true]; done) | (simp only [coM, i2_0, h_1, hjdc, h_2, hjec, h_3, h_4, h_5, h_6, h_7, h_8, hn0c, h_9, hi0c, h_10, hj0c, h_11, h_12, ↓reduceIte, Bool.false_eq_true]; rfl) | (unfold coM; (repeat' split) <;> first | rfl | contradiction | (simp_all; done))))) (by first | rfl | (simp only [coS, i2_0, h_1, hjdc, h_2, hjec, h_3, h_4, h_5, h_6, h_7, h_8, hn0c, h_9, hi0c, h_10, hj0c, h_11, h_12, ↓reduceIte, Bool.false_eq_true]; done) | (simp only [coS, i2_0, h_1, hjdc, h_2, hjec, h_3, h_4, h_5, h_6, h_7, h_8, hn0c, h_9, hi0c, h_10, hj0c, h_11, h_12, ↓reduceIte, Bool.false_eq_true]; rfl))
              ·
                refine ab_bipush (v := (-12)) hX dX12_copy_72 (by decide) ?_
                exact ab_ireturn hX hF dX12_copy_74 rfl (by rfl) (congrArg some (congrArg Value.int (by first | rfl | (simp only [coM, i2_0, h_1, hjdc, h_2, hjec, h_3, h_4, h_5, h_6, h_7, ↓reduceIte, Bool.false_eq_true]; done) | (simp only [coM, i2_0, h_1, hjdc, h_2, hjec, h_3, h_4, h_5, h_6, h_7, ↓reduceIte, Bool.false_eq_true]; rfl) | (unfold coM; (repeat' split) <;> first | rfl | contradiction | (simp_all; done))))) (by first | rfl | (simp only [coS, i2_0, h_1, hjdc, h_2, hjec, h_3, h_4, h_5, h_6, h_7, ↓reduceIte, Bool.false_eq_true]; done) | (simp only [coS, i2_0, h_1, hjdc, h_2, hjec, h_3, h_4, h_5, h_6, h_7, ↓reduceIte, Bool.false_eq_true]; rfl))
        ·
          refine ab_bipush (v := (-11)) hX dX12_copy_34 (by decide) ?_
          exact ab_ireturn hX hF dX12_copy_36 rfl (by rfl) (congrArg some (congrArg Value.int (by first | rfl | (simp only [coM, i2_0, h_1, hjdc, h_2, hjec, h_3, h_4, ↓reduceIte, Bool.false_eq_true]; done) | (simp only [coM, i2_0, h_1, hjdc, h_2, hjec, h_3, h_4, ↓reduceIte, Bool.false_eq_true]; rfl) | (unfold coM; (repeat' split) <;> first | rfl | contradiction | (simp_all; done))))) (by first | rfl | (simp only [coS, i2_0, h_1, hjdc, h_2, hjec, h_3, h_4, ↓reduceIte, Bool.false_eq_true]; done) | (simp only [coS, i2_0, h_1, hjdc, h_2, hjec, h_3, h_4, ↓reduceIte, Bool.false_eq_true]; rfl))
    ·
      refine ab_iconst (v := (-1)) hX dX12_copy_14 (by decide) ?_
      exact ab_ireturn hX hF dX12_copy_15 rfl (by rfl) (congrArg some (congrArg Value.int (by first | rfl | (simp only [coM, i2_0, h_1, hjdc, h_2, ↓reduceIte, Bool.false_eq_true]; done) | (simp only [coM, i2_0, h_1, hjdc, h_2, ↓reduceIte, Bool.false_eq_true]; rfl) | (unfold coM; (repeat' split) <;> first | rfl | contradiction | (simp_all; done))))) (by first | rfl | (simp only [coS, i2_0, h_1, hjdc, h_2, ↓reduceIte, Bool.false_eq_true]; done) | (simp only [coS, i2_0, h_1, hjdc, h_2, ↓reduceIte, Bool.false_eq_true]; rfl))
theorem cm_X12_part {G : ab_G} (hG : ab_GG G) {A : List ab_E} {s : MS} {B : List ab_E} (hA : A.length = 42) {part : Int32} {g : Int64} (hgd : gdE 100 (s.2.2 18) (s.2.2 19) = some g) (hg : ¬ g = 0) : ab_CM G mX12_part [.ref 42, .int part] (mH A s B) (some (.long (ptV (s.2.2 18) (s.2.2 19) g part))) (mH A s B) := by
  refine ab_meth (l0 := [(0, .ref 42), (1, .int part)]) hG (by decide +kernel) rfl (Nat.le_of_ble_eq_true rfl) (Nat.le_refl _) (Nat.le_refl _) (fun X hX hF => ?_)
  refine ab_aload_n hX dX12_part_0 mm0 ?_
  refine ab_getfield hX dX12_part_1 (fs_X12_206_13 rfl) (mg_o hA) rfl ?_
  refine ab_lstore_n hX dX12_part_4 rfl (by decide) rfl ?_
  refine ab_aload_n hX dX12_part_5 mm1 ?_
  refine ab_getfield hX dX12_part_6 (fs_X12_210_13 rfl) (mg_o hA) rfl ?_
  refine ab_lstore hX dX12_part_9 (by decide) rfl ?_
  have L11 : ∀ (k11_ : Nat) (k : Nat) (x y : Int64) (hr : gdE k x y = some g), k11_ = k → ab_WA G mX12_part X 11 [(0, .ref 42), (1, .int part), (2, .long x), (4, .long y)] [] (mH A s B) := by
    intro k11_
    induction k11_ using Nat.strongRecOn with
    | _ k11_ ih11 =>
      intro k x y hr hk11_
      refine ab_lload hX dX12_part_11 mm3 ?_
      refine ab_lconst (v := 0) hX dX12_part_13 rfl ?_
      refine ab_lcmp hX dX12_part_14 ?_
      refine ab_ifeqC (tgt := 34) hX dX12_part_15 (by decide) (fun h_1 => ?_) (fun h_1 => ?_)
      ·
        obtain rfl := gdE_t hr h_1
        refine ab_iload_n hX dX12_part_34 mm1 ?_
        refine ab_ifne (tgt := 47) hX dX12_part_35 (by decide) (fun h_2 => ?_) (fun h_2 => ?_)
        ·
          refine ab_aload_n hX dX12_part_47 mm0 ?_
          refine ab_getfield hX dX12_part_48 (fs_X12_210_13 rfl) (mg_o hA) rfl ?_
          refine ab_lload_n hX dX12_part_51 mm2 ?_
          refine ab_ldiv hX dX12_part_52 (by assumption) ?_
          exact ab_lreturn hX hF dX12_part_53 rfl (congrArg some (congrArg Value.long (by first | rfl | (simp only [ptV, h_1, h_2, ↓reduceIte, Bool.false_eq_true]; done) | (simp only [ptV, h_1, h_2, ↓reduceIte, Bool.false_eq_true]; rfl) | (unfold ptV; (repeat' split) <;> first | rfl | contradiction | (simp_all; done))))) (by rfl)
        ·
          refine ab_aload_n hX dX12_part_38 mm0 ?_
          refine ab_getfield hX dX12_part_39 (fs_X12_206_13 rfl) (mg_o hA) rfl ?_
          refine ab_lload_n hX dX12_part_42 mm2 ?_
          refine ab_ldiv hX dX12_part_43 (by assumption) ?_
          refine ab_goto (tgt := 53) hX dX12_part_44 (by decide) ?_
          exact ab_lreturn hX hF dX12_part_53 rfl (congrArg some (congrArg Value.long (by first | rfl | (simp only [ptV, h_1, h_2, ↓reduceIte, Bool.false_eq_true]; done) | (simp only [ptV, h_1, h_2, ↓reduceIte, Bool.false_eq_true]; rfl) | (unfold ptV; (repeat' split) <;> first | rfl | contradiction | (simp_all; done))))) (by rfl)
      ·
        obtain ⟨k2, rfl, hr2⟩ := gdE_f hr h_1
        refine ab_lload_n hX dX12_part_18 mm2 ?_
        refine ab_lload hX dX12_part_19 mm3 ?_
        refine ab_lrem hX dX12_part_21 (by assumption) ?_
        refine ab_lstore hX dX12_part_22 (by decide) rfl ?_
        refine ab_lload hX dX12_part_24 mm4 ?_
        refine ab_lstore_n hX dX12_part_26 rfl (by decide) rfl ?_
        refine ab_lload hX dX12_part_27 mm1 ?_
        refine ab_lstore hX dX12_part_29 (by decide) rfl ?_
        refine ab_goto (tgt := 11) hX dX12_part_31 (by decide) ?_
        exact ab_pm4 mm3 (mmv4 (congrArg Value.int (by rfl))) (mmv1 (congrArg Value.long (by rfl))) (mmv0 (congrArg Value.long (by rfl))) (ih11 (_) (by omega) k2 _ _ hr2 rfl)
  exact ab_pm4 mm2 (mmv3 (congrArg Value.int (by rfl))) (mmv1 (congrArg Value.long (by rfl))) (mmv0 (congrArg Value.long (by rfl))) (L11 _ 100 _ _ hgd rfl)
theorem kdiv : ∀ k, k < 13 → ¬ (nI k + 1).toInt64 = 0 := by decide +kernel
theorem cm_X12_pencils {G : ab_G} (hG : ab_GG G) {A : List ab_E} {s : MS} {B : List ab_E} (hA : A.length = 42) {t : Int32} {n : Int32} {part : Int32}  : ab_CM G mX12_pencils [.ref 42, .int t, .int n, .int part] (mH A s B) (some (.long (pcM t n part))) (mH A (pcE s t n part) B) := by
  refine ab_meth (l0 := [(0, .ref 42), (1, .int t), (2, .int n), (3, .int part)]) hG (by decide +kernel) rfl (Nat.le_of_ble_eq_true rfl) mH_lenE mH_szE (fun X hX hF => ?_)
  refine ab_iload_n hX dX12_pencils_0 mm1 ?_
  refine ab_iconst (v := 1) hX dX12_pencils_1 (by decide) ?_
  refine ab_bipush (v := 9) hX dX12_pencils_2 (by decide) ?_
  refine ab_callS3r hX dX12_pencils_4 ss_X12_pencils_43 (cm_X12_within hG) (Nat.le_of_ble_eq_true rfl) ?_
  refine ab_ifeqB (tgt := 29) hX dX12_pencils_7 (by decide) (fun h_1 => ?_) (fun h_1 => ?_)
  ·
    refine ab_ldc2 hX dX12_pencils_29 tw_1223 ?_
    exact ab_lreturn hX hF dX12_pencils_32 rfl (congrArg some (congrArg Value.long (by first | rfl | (simp only [pcM, h_1, ↓reduceIte, Bool.false_eq_true]; done) | (simp only [pcM, h_1, ↓reduceIte, Bool.false_eq_true]; rfl) | (unfold pcM; (repeat' split) <;> first | rfl | contradiction | (simp_all; done))))) (by first | rfl | (simp only [pcE, h_1, ↓reduceIte, Bool.false_eq_true]; done) | (simp only [pcE, h_1, ↓reduceIte, Bool.false_eq_true]; rfl))
  ·
    refine ab_iload_n hX dX12_pencils_10 mm2 ?_
    refine ab_iconst (v := 0) hX dX12_pencils_11 (by decide) ?_
    refine ab_bipush (v := 12) hX dX12_pencils_12 (by decide) ?_
    refine ab_callS3r hX dX12_pencils_14 ss_X12_pencils_43 (cm_X12_within hG) (Nat.le_of_ble_eq_true rfl) ?_
    refine ab_ifeqB (tgt := 29) hX dX12_pencils_17 (by decide) (fun h_2 => ?_) (fun h_2 => ?_)
    ·
      refine ab_ldc2 hX dX12_pencils_29 tw_1223 ?_
      exact ab_lreturn hX hF dX12_pencils_32 rfl (congrArg some (congrArg Value.long (by first | rfl | (simp only [pcM, h_1, h_2, ↓reduceIte, Bool.false_eq_true]; done) | (simp only [pcM, h_1, h_2, ↓reduceIte, Bool.false_eq_true]; rfl) | (unfold pcM; (repeat' split) <;> first | rfl | contradiction | (simp_all; done))))) (by first | rfl | (simp only [pcE, h_1, h_2, ↓reduceIte, Bool.false_eq_true]; done) | (simp only [pcE, h_1, h_2, ↓reduceIte, Bool.false_eq_true]; rfl))
    ·
      refine ab_iload_n hX dX12_pencils_20 mm3 ?_
      refine ab_iconst (v := 0) hX dX12_pencils_21 (by decide) ?_
      refine ab_iconst (v := 1) hX dX12_pencils_22 (by decide) ?_
      refine ab_callS3r hX dX12_pencils_23 ss_X12_pencils_43 (cm_X12_within hG) (Nat.le_of_ble_eq_true rfl) ?_
      refine ab_ifneB (tgt := 33) hX dX12_pencils_26 (by decide) (fun h_3 => ?_) (fun h_3 => ?_)
      ·
        refine ab_aload_n hX dX12_pencils_33 mm0 ?_
        refine ab_lconst (v := 0) hX dX12_pencils_34 rfl ?_
        refine ab_putfield hX dX12_pencils_35 ps_X12_pencils_206_13 (mg_o hA) (Nat.le_of_ble_eq_true rfl) rfl rfl (mx_18 hA) ?_
        refine ab_aload_n hX dX12_pencils_38 mm0 ?_
        refine ab_ldc2 hX dX12_pencils_39 tw_1343 ?_
        refine ab_putfield hX dX12_pencils_42 ps_X12_pencils_210_13 (mg_o hA) (Nat.le_of_ble_eq_true rfl) rfl rfl (mx_19 hA) ?_
        refine ab_lconst (v := 1) hX dX12_pencils_45 rfl ?_
        refine ab_lstore hX dX12_pencils_46 (by decide) rfl ?_
        refine ab_iconst (v := 0) hX dX12_pencils_48 (by decide) ?_
        refine ab_istore hX dX12_pencils_49 (by decide) rfl ?_
        have L51 : ∀ (k51_ : Nat) (k : Nat) (hk_ : k ≤ 13), k51_ = 13 - k → ab_WA G mX12_pencils X 51 [(0, .ref 42), (1, .int t), (2, .int n), (3, .int part), (4, .long (acc (pcF t n) (1, 0) k).1), (6, .int (nI k))] [] (mH A (pcS s (acc (pcF t n) (1, 0) k).2) B) := by
          intro k51_
          induction k51_ using Nat.strongRecOn with
          | _ k51_ ih51 =>
            intro k hk_ hk51_
            refine ab_iload hX dX12_pencils_51 mm5 ?_
            refine ab_bipush (v := 13) hX dX12_pencils_53 (by decide) ?_
            refine ab_icmpge (tgt := 140) hX dX12_pencils_55 (by decide) (fun h_4 => ?_) (fun h_4 => ?_)
            ·
              have hx_ := ctE (N := 13) h_4 (by rfl) (by omega) (by omega)
              obtain rfl : 13 = k := by omega
              refine ab_aload_n hX dX12_pencils_140 mm0 ?_
              refine ab_iload_n hX dX12_pencils_141 mm3 ?_
              refine ab_callV1r hX dX12_pencils_142 (mg_o hA) ss_X12_pencils_215 (cm_X12_part hG hA (g := pcG t n) (pc_ok ‹_› ‹_›).1 (pc_ok ‹_› ‹_›).2) (Nat.le_of_ble_eq_true rfl) ?_
              exact ab_lreturn hX hF dX12_pencils_145 rfl (congrArg some (congrArg Value.long (by first | rfl | (simp only [pcM, h_1, h_2, h_3, h_4, ↓reduceIte, Bool.false_eq_true]; done) | (simp only [pcM, h_1, h_2, h_3, h_4, ↓reduceIte, Bool.false_eq_true]; rfl) | (unfold pcM; (repeat' split) <;> first | rfl | contradiction | (simp_all; done))))) (by first | rfl | (simp only [pcE, h_1, h_2, h_3, h_4, ↓reduceIte, Bool.false_eq_true]; done) | (simp only [pcE, h_1, h_2, h_3, h_4, ↓reduceIte, Bool.false_eq_true]; rfl))
            ·
              have hltk_ := ctL (N := 13) h_4 (by rfl) (by omega) (by omega)
              refine ab_lload hX dX12_pencils_58 mm4 ?_
              refine ab_lstore hX dX12_pencils_60 (by decide) rfl ?_
              refine ab_iconst (v := 0) hX dX12_pencils_62 (by decide) ?_
              refine ab_istore hX dX12_pencils_63 (by decide) rfl ?_
              have L65 : ∀ (k65_ : Nat) (i : Nat) (hi_ : i ≤ 12), k65_ = 12 - i → ab_WA G mX12_pencils X 65 [(0, .ref 42), (1, .int t), (2, .int n), (3, .int part), (4, .long (acc (pcF t n) (1, 0) k).1), (6, .int (nI k)), (7, .long (acc (pcB t k) (acc (pcF t n) (1, 0) k).1 i)), (9, .int (nI i))] [] (mH A (pcS s (acc (pcF t n) (1, 0) k).2) B) := by
                intro k65_
                induction k65_ using Nat.strongRecOn with
                | _ k65_ ih65 =>
                  intro i hi_ hk65_
                  refine ab_iload hX dX12_pencils_65 mm7 ?_
                  refine ab_bipush (v := 12) hX dX12_pencils_67 (by decide) ?_
                  refine ab_icmpge (tgt := 100) hX dX12_pencils_69 (by decide) (fun h_5 => ?_) (fun h_5 => ?_)
                  ·
                    have hx_ := ctE (N := 12) h_5 (by rfl) (by omega) (by omega)
                    obtain rfl : 12 = i := by omega
                    refine ab_iload hX dX12_pencils_100 mm5 ?_
                    refine ab_iload_n hX dX12_pencils_102 mm2 ?_
                    refine ab_icmplt (tgt := 117) hX dX12_pencils_103 (by decide) (fun h_6 => ?_) (fun h_6 => ?_)
                    ·
                      refine ab_lload hX dX12_pencils_117 mm4 ?_
                      refine ab_bipush (v := 12) hX dX12_pencils_119 (by decide) ?_
                      refine ab_iload hX dX12_pencils_121 mm5 ?_
                      refine ab_isub hX dX12_pencils_123 ?_
                      refine ab_i2l hX dX12_pencils_124 ?_
                      refine ab_lmul hX dX12_pencils_125 ?_
                      refine ab_iload hX dX12_pencils_126 mm5 ?_
                      refine ab_iconst (v := 1) hX dX12_pencils_128 (by decide) ?_
                      refine ab_iadd hX dX12_pencils_129 ?_
                      refine ab_i2l hX dX12_pencils_130 ?_
                      refine ab_ldiv hX dX12_pencils_131 (by exact kdiv _ (by omega)) ?_
                      refine ab_lstore hX dX12_pencils_132 (by decide) rfl ?_
                      refine ab_iinc hX dX12_pencils_134 mm5 rfl (by decide) rfl ?_
                      refine ab_goto (tgt := 51) hX dX12_pencils_137 (by decide) ?_
                      exact ab_pm6 mm2 (mmv3 (congrArg Value.int (by first | exact (nI_1 _).symm | rfl | (rw [acc_s]; first | rfl | (simp only [pcF, h_1, h_2, h_3, h_4, h_5, h_6, ↓reduceIte, Bool.false_eq_true]; done) | (simp only [pcF, h_1, h_2, h_3, h_4, h_5, h_6, ↓reduceIte, Bool.false_eq_true]; rfl))))) (mmv4 (congrArg Value.int (by first | exact (nI_1 _).symm | rfl | (rw [acc_s]; first | rfl | (simp only [pcF, h_1, h_2, h_3, h_4, h_5, h_6, ↓reduceIte, Bool.false_eq_true]; done) | (simp only [pcF, h_1, h_2, h_3, h_4, h_5, h_6, ↓reduceIte, Bool.false_eq_true]; rfl))))) (mmv5 (congrArg Value.int (by first | exact (nI_1 _).symm | rfl | (rw [acc_s]; first | rfl | (simp only [pcF, h_1, h_2, h_3, h_4, h_5, h_6, ↓reduceIte, Bool.false_eq_true]; done) | (simp only [pcF, h_1, h_2, h_3, h_4, h_5, h_6, ↓reduceIte, Bool.false_eq_true]; rfl))))) (mmv1 (congrArg Value.long (by first | exact (nI_1 _).symm | rfl | (rw [acc_s]; first | rfl | (simp only [pcF, h_1, h_2, h_3, h_4, h_5, h_6, ↓reduceIte, Bool.false_eq_true]; done) | (simp only [pcF, h_1, h_2, h_3, h_4, h_5, h_6, ↓reduceIte, Bool.false_eq_true]; rfl))))) (mmv0 (congrArg Value.int (by first | exact (nI_1 _).symm | rfl | (rw [acc_s]; first | rfl | (simp only [pcF, h_1, h_2, h_3, h_4, h_5, h_6, ↓reduceIte, Bool.false_eq_true]; done) | (simp only [pcF, h_1, h_2, h_3, h_4, h_5, h_6, ↓reduceIte, Bool.false_eq_true]; rfl))))) (ab_hp (by rw [acc_s (pcF t n)]; simp only [pcF, pcS_1, h_1, h_2, h_3, h_4, h_5, h_6, ↓reduceIte]; try rfl) (ih51 (_) (by omega) (k + 1) (by omega) rfl))
                    ·
                      refine ab_aload_n hX dX12_pencils_106 mm0 ?_
                      refine ab_dup hX dX12_pencils_107 rfl ?_
                      refine ab_getfield hX dX12_pencils_108 (fs_X12_206_13 rfl) (mg_o hA) rfl ?_
                      refine ab_lload hX dX12_pencils_111 mm6 ?_
                      refine ab_ladd hX dX12_pencils_113 ?_
                      refine ab_putfield hX dX12_pencils_114 ps_X12_pencils_206_13 (mg_o hA) (Nat.le_of_ble_eq_true rfl) rfl rfl (mx_18 hA) ?_
                      refine ab_lload hX dX12_pencils_117 mm4 ?_
                      refine ab_bipush (v := 12) hX dX12_pencils_119 (by decide) ?_
                      refine ab_iload hX dX12_pencils_121 mm5 ?_
                      refine ab_isub hX dX12_pencils_123 ?_
                      refine ab_i2l hX dX12_pencils_124 ?_
                      refine ab_lmul hX dX12_pencils_125 ?_
                      refine ab_iload hX dX12_pencils_126 mm5 ?_
                      refine ab_iconst (v := 1) hX dX12_pencils_128 (by decide) ?_
                      refine ab_iadd hX dX12_pencils_129 ?_
                      refine ab_i2l hX dX12_pencils_130 ?_
                      refine ab_ldiv hX dX12_pencils_131 (by exact kdiv _ (by omega)) ?_
                      refine ab_lstore hX dX12_pencils_132 (by decide) rfl ?_
                      refine ab_iinc hX dX12_pencils_134 mm5 rfl (by decide) rfl ?_
                      refine ab_goto (tgt := 51) hX dX12_pencils_137 (by decide) ?_
                      exact ab_pm6 mm2 (mmv3 (congrArg Value.int (by first | exact (nI_1 _).symm | rfl | (rw [acc_s]; first | rfl | (simp only [pcF, h_1, h_2, h_3, h_4, h_5, h_6, ↓reduceIte, Bool.false_eq_true]; done) | (simp only [pcF, h_1, h_2, h_3, h_4, h_5, h_6, ↓reduceIte, Bool.false_eq_true]; rfl))))) (mmv4 (congrArg Value.int (by first | exact (nI_1 _).symm | rfl | (rw [acc_s]; first | rfl | (simp only [pcF, h_1, h_2, h_3, h_4, h_5, h_6, ↓reduceIte, Bool.false_eq_true]; done) | (simp only [pcF, h_1, h_2, h_3, h_4, h_5, h_6, ↓reduceIte, Bool.false_eq_true]; rfl))))) (mmv5 (congrArg Value.int (by first | exact (nI_1 _).symm | rfl | (rw [acc_s]; first | rfl | (simp only [pcF, h_1, h_2, h_3, h_4, h_5, h_6, ↓reduceIte, Bool.false_eq_true]; done) | (simp only [pcF, h_1, h_2, h_3, h_4, h_5, h_6, ↓reduceIte, Bool.false_eq_true]; rfl))))) (mmv1 (congrArg Value.long (by first | exact (nI_1 _).symm | rfl | (rw [acc_s]; first | rfl | (simp only [pcF, h_1, h_2, h_3, h_4, h_5, h_6, ↓reduceIte, Bool.false_eq_true]; done) | (simp only [pcF, h_1, h_2, h_3, h_4, h_5, h_6, ↓reduceIte, Bool.false_eq_true]; rfl))))) (mmv0 (congrArg Value.int (by first | exact (nI_1 _).symm | rfl | (rw [acc_s]; first | rfl | (simp only [pcF, h_1, h_2, h_3, h_4, h_5, h_6, ↓reduceIte, Bool.false_eq_true]; done) | (simp only [pcF, h_1, h_2, h_3, h_4, h_5, h_6, ↓reduceIte, Bool.false_eq_true]; rfl))))) (ab_hp (by rw [acc_s (pcF t n)]; simp only [pcF, pcS_1, h_1, h_2, h_3, h_4, h_5, h_6, ↓reduceIte]; try rfl) (ih51 (_) (by omega) (k + 1) (by omega) rfl))
                  ·
                    have hlti_ := ctL (N := 12) h_5 (by rfl) (by omega) (by omega)
                    refine ab_lload hX dX12_pencils_72 mm6 ?_
                    refine ab_iload hX dX12_pencils_74 mm7 ?_
                    refine ab_iload hX dX12_pencils_76 mm5 ?_
                    refine ab_icmpge (tgt := 86) hX dX12_pencils_78 (by decide) (fun h_7 => ?_) (fun h_7 => ?_)
                    ·
                      refine ab_bipush (v := 10) hX dX12_pencils_86 (by decide) ?_
                      refine ab_iload_n hX dX12_pencils_88 mm1 ?_
                      refine ab_isub hX dX12_pencils_89 ?_
                      refine ab_i2l hX dX12_pencils_90 ?_
                      refine ab_lmul hX dX12_pencils_91 ?_
                      refine ab_lstore hX dX12_pencils_92 (by decide) rfl ?_
                      refine ab_iinc hX dX12_pencils_94 mm7 rfl (by decide) rfl ?_
                      refine ab_goto (tgt := 65) hX dX12_pencils_97 (by decide) ?_
                      exact ab_pm8 mm2 (mmv3 (congrArg Value.int (by first | exact (nI_1 _).symm | rfl | (rw [acc_s]; first | rfl | (simp only [pcB, h_1, h_2, h_3, h_4, h_5, h_7, ↓reduceIte, Bool.false_eq_true]; done) | (simp only [pcB, h_1, h_2, h_3, h_4, h_5, h_7, ↓reduceIte, Bool.false_eq_true]; rfl))))) (mmv4 (congrArg Value.int (by first | exact (nI_1 _).symm | rfl | (rw [acc_s]; first | rfl | (simp only [pcB, h_1, h_2, h_3, h_4, h_5, h_7, ↓reduceIte, Bool.false_eq_true]; done) | (simp only [pcB, h_1, h_2, h_3, h_4, h_5, h_7, ↓reduceIte, Bool.false_eq_true]; rfl))))) (mmv5 (congrArg Value.int (by first | exact (nI_1 _).symm | rfl | (rw [acc_s]; first | rfl | (simp only [pcB, h_1, h_2, h_3, h_4, h_5, h_7, ↓reduceIte, Bool.false_eq_true]; done) | (simp only [pcB, h_1, h_2, h_3, h_4, h_5, h_7, ↓reduceIte, Bool.false_eq_true]; rfl))))) (mmv6 (congrArg Value.long (by first | exact (nI_1 _).symm | rfl | (rw [acc_s]; first | rfl | (simp only [pcB, h_1, h_2, h_3, h_4, h_5, h_7, ↓reduceIte, Bool.false_eq_true]; done) | (simp only [pcB, h_1, h_2, h_3, h_4, h_5, h_7, ↓reduceIte, Bool.false_eq_true]; rfl))))) (mmv7 (congrArg Value.int (by first | exact (nI_1 _).symm | rfl | (rw [acc_s]; first | rfl | (simp only [pcB, h_1, h_2, h_3, h_4, h_5, h_7, ↓reduceIte, Bool.false_eq_true]; done) | (simp only [pcB, h_1, h_2, h_3, h_4, h_5, h_7, ↓reduceIte, Bool.false_eq_true]; rfl))))) (mmv1 (congrArg Value.long (by first | exact (nI_1 _).symm | rfl | (rw [acc_s]; first | rfl | (simp only [pcB, h_1, h_2, h_3, h_4, h_5, h_7, ↓reduceIte, Bool.false_eq_true]; done) | (simp only [pcB, h_1, h_2, h_3, h_4, h_5, h_7, ↓reduceIte, Bool.false_eq_true]; rfl))))) (mmv0 (congrArg Value.int (by first | exact (nI_1 _).symm | rfl | (rw [acc_s]; first | rfl | (simp only [pcB, h_1, h_2, h_3, h_4, h_5, h_7, ↓reduceIte, Bool.false_eq_true]; done) | (simp only [pcB, h_1, h_2, h_3, h_4, h_5, h_7, ↓reduceIte, Bool.false_eq_true]; rfl))))) (ih65 (_) (by omega) (i + 1) (by omega) rfl)
                    ·
                      refine ab_iload_n hX dX12_pencils_81 mm1 ?_
                      refine ab_i2l hX dX12_pencils_82 ?_
                      refine ab_goto (tgt := 91) hX dX12_pencils_83 (by decide) ?_
                      refine ab_lmul hX dX12_pencils_91 ?_
                      refine ab_lstore hX dX12_pencils_92 (by decide) rfl ?_
                      refine ab_iinc hX dX12_pencils_94 mm7 rfl (by decide) rfl ?_
                      refine ab_goto (tgt := 65) hX dX12_pencils_97 (by decide) ?_
                      exact ab_pm8 mm2 (mmv3 (congrArg Value.int (by first | exact (nI_1 _).symm | rfl | (rw [acc_s]; first | rfl | (simp only [pcB, h_1, h_2, h_3, h_4, h_5, h_7, ↓reduceIte, Bool.false_eq_true]; done) | (simp only [pcB, h_1, h_2, h_3, h_4, h_5, h_7, ↓reduceIte, Bool.false_eq_true]; rfl))))) (mmv4 (congrArg Value.int (by first | exact (nI_1 _).symm | rfl | (rw [acc_s]; first | rfl | (simp only [pcB, h_1, h_2, h_3, h_4, h_5, h_7, ↓reduceIte, Bool.false_eq_true]; done) | (simp only [pcB, h_1, h_2, h_3, h_4, h_5, h_7, ↓reduceIte, Bool.false_eq_true]; rfl))))) (mmv5 (congrArg Value.int (by first | exact (nI_1 _).symm | rfl | (rw [acc_s]; first | rfl | (simp only [pcB, h_1, h_2, h_3, h_4, h_5, h_7, ↓reduceIte, Bool.false_eq_true]; done) | (simp only [pcB, h_1, h_2, h_3, h_4, h_5, h_7, ↓reduceIte, Bool.false_eq_true]; rfl))))) (mmv6 (congrArg Value.long (by first | exact (nI_1 _).symm | rfl | (rw [acc_s]; first | rfl | (simp only [pcB, h_1, h_2, h_3, h_4, h_5, h_7, ↓reduceIte, Bool.false_eq_true]; done) | (simp only [pcB, h_1, h_2, h_3, h_4, h_5, h_7, ↓reduceIte, Bool.false_eq_true]; rfl))))) (mmv7 (congrArg Value.int (by first | exact (nI_1 _).symm | rfl | (rw [acc_s]; first | rfl | (simp only [pcB, h_1, h_2, h_3, h_4, h_5, h_7, ↓reduceIte, Bool.false_eq_true]; done) | (simp only [pcB, h_1, h_2, h_3, h_4, h_5, h_7, ↓reduceIte, Bool.false_eq_true]; rfl))))) (mmv1 (congrArg Value.long (by first | exact (nI_1 _).symm | rfl | (rw [acc_s]; first | rfl | (simp only [pcB, h_1, h_2, h_3, h_4, h_5, h_7, ↓reduceIte, Bool.false_eq_true]; done) | (simp only [pcB, h_1, h_2, h_3, h_4, h_5, h_7, ↓reduceIte, Bool.false_eq_true]; rfl))))) (mmv0 (congrArg Value.int (by first | exact (nI_1 _).symm | rfl | (rw [acc_s]; first | rfl | (simp only [pcB, h_1, h_2, h_3, h_4, h_5, h_7, ↓reduceIte, Bool.false_eq_true]; done) | (simp only [pcB, h_1, h_2, h_3, h_4, h_5, h_7, ↓reduceIte, Bool.false_eq_true]; rfl))))) (ih65 (_) (by omega) (i + 1) (by omega) rfl)
              exact ab_pm8 mm2 (mmv3 (congrArg Value.int (by rfl))) (mmv4 (congrArg Value.int (by rfl))) (mmv5 (congrArg Value.int (by rfl))) (mmv6 (congrArg Value.long (by rfl))) (mmv7 (congrArg Value.int (by rfl))) (mmv1 (congrArg Value.long (by rfl))) (mmv0 (congrArg Value.int (by rfl))) (L65 _ 0 (by omega) rfl)
        exact ab_pm6 mm2 (mmv3 (congrArg Value.int (by rfl))) (mmv4 (congrArg Value.int (by rfl))) (mmv5 (congrArg Value.int (by rfl))) (mmv1 (congrArg Value.long (by rfl))) (mmv0 (congrArg Value.int (by rfl))) (ab_hp (by exact congrArg (fun z => mH A z B) (pcS_0 s 0)) (L51 _ 0 (by omega) rfl))
      ·
        refine ab_ldc2 hX dX12_pencils_29 tw_1223 ?_
        exact ab_lreturn hX hF dX12_pencils_32 rfl (congrArg some (congrArg Value.long (by first | rfl | (simp only [pcM, h_1, h_2, h_3, ↓reduceIte, Bool.false_eq_true]; done) | (simp only [pcM, h_1, h_2, h_3, ↓reduceIte, Bool.false_eq_true]; rfl) | (unfold pcM; (repeat' split) <;> first | rfl | contradiction | (simp_all; done))))) (by first | rfl | (simp only [pcE, h_1, h_2, h_3, ↓reduceIte, Bool.false_eq_true]; done) | (simp only [pcE, h_1, h_2, h_3, ↓reduceIte, Bool.false_eq_true]; rfl))
theorem cm_X12_seeds {G : ab_G} (hG : ab_GG G) {A : List ab_E} {s : MS} {B : List ab_E} (hA : A.length = 42) {n : Int32} {z : Int32} {what : Int32} {nl nw ns : Nat} (hI : mI s nl nw ns)  : ab_CM G mX12_seeds [.ref 42, .int n, .int z, .int what] (mH A s B) (some (.int (seM s nl nw n z what))) (mH A (seS s nl nw n z what) B) := by
  refine ab_meth (l0 := [(0, .ref 42), (1, .int n), (2, .int z), (3, .int what)]) hG (by decide +kernel) rfl (Nat.le_of_ble_eq_true rfl) mH_lenE mH_szE (fun X hX hF => ?_)
  obtain ⟨hl, hl6, hw, hw5, hs, hs10⟩ := id hI
  refine ab_iload_n hX dX12_seeds_0 mm1 ?_
  refine ab_iconst (v := 1) hX dX12_seeds_1 (by decide) ?_
  refine ab_bipush (v := 20) hX dX12_seeds_2 (by decide) ?_
  refine ab_callS3r hX dX12_seeds_4 ss_X12_seeds_43 (cm_X12_within hG) (Nat.le_of_ble_eq_true rfl) ?_
  refine ab_ifeqB (tgt := 19) hX dX12_seeds_7 (by decide) (fun h_1 => ?_) (fun h_1 => ?_)
  ·
    refine ab_iconst (v := (-1)) hX dX12_seeds_19 (by decide) ?_
    exact ab_ireturn hX hF dX12_seeds_20 rfl (by rfl) (congrArg some (congrArg Value.int (by first | rfl | (simp only [seM, seS, h_1, ↓reduceIte, Bool.false_eq_true]; done) | (simp only [seM, seS, h_1, ↓reduceIte, Bool.false_eq_true]; rfl) | (unfold seM; (repeat' split) <;> first | rfl | contradiction | (simp_all; done))))) (by first | rfl | (simp only [seM, seS, h_1, ↓reduceIte, Bool.false_eq_true]; done) | (simp only [seM, seS, h_1, ↓reduceIte, Bool.false_eq_true]; rfl))
  ·
    obtain ⟨N, hN, rfl⟩ := iw20 h_1
    have hNc := tn_nI (j := N) (by omega)
    refine ab_iload_n hX dX12_seeds_10 mm3 ?_
    refine ab_iconst (v := 0) hX dX12_seeds_11 (by decide) ?_
    refine ab_iconst (v := 1) hX dX12_seeds_12 (by decide) ?_
    refine ab_callS3r hX dX12_seeds_13 ss_X12_seeds_43 (cm_X12_within hG) (Nat.le_of_ble_eq_true rfl) ?_
    refine ab_ifneB (tgt := 21) hX dX12_seeds_16 (by decide) (fun h_2 => ?_) (fun h_2 => ?_)
    ·
      refine ab_aload_n hX dX12_seeds_21 mm0 ?_
      refine ab_aload_n hX dX12_seeds_22 mm0 ?_
      refine ab_getfield hX dX12_seeds_23 (fs_X12_40_13 rfl) (mg_o hA) rfl ?_
      refine ab_callV1v hX dX12_seeds_26 (mg_o hA) ss_X12_seeds_114 (cm_X12_keep_ahead hG hA) (Nat.le_of_ble_eq_true rfl) ?_
      refine ab_iload_n hX dX12_seeds_29 mm2 ?_
      refine ab_istore hX dX12_seeds_30 (by decide) rfl ?_
      refine ab_iconst (v := 0) hX dX12_seeds_32 (by decide) ?_
      refine ab_istore hX dX12_seeds_33 (by decide) rfl ?_
      refine ab_iconst (v := 0) hX dX12_seeds_35 (by decide) ?_
      refine ab_istore hX dX12_seeds_36 (by decide) rfl ?_
      refine ab_iconst (v := 0) hX dX12_seeds_38 (by decide) ?_
      refine ab_istore hX dX12_seeds_39 (by decide) rfl ?_
      have L41 : ∀ (k41_ : Nat) (i : Nat) (hi_ : i ≤ N), k41_ = N - i → ab_WA G mX12_seeds X 41 [(0, .ref 42), (1, .int (nI N)), (3, .int what), (4, .int (acc (soF nl nw) (sdZ s z) i).2.1), (5, .int (acc (soF nl nw) (sdZ s z) i).2.2.1), (6, .int (acc (soF nl nw) (sdZ s z) i).2.2.2), (7, .int (nI i))] [] (mH A (acc (soF nl nw) (sdZ s z) i).1 B) := by
        intro k41_
        induction k41_ using Nat.strongRecOn with
        | _ k41_ ih41 =>
          intro i hi_ hk41_
          have hQ := so_all (q := sdZ s z) (kp_mJ (k := 17) hI) i
          refine ab_iload hX dX12_seeds_41 mm6 ?_
          refine ab_iload_n hX dX12_seeds_43 mm1 ?_
          refine ab_icmpge (tgt := 202) hX dX12_seeds_44 (by decide) (fun h_3 => ?_) (fun h_3 => ?_)
          ·
            have hx_ := ctE (N := N) h_3 (by rfl) (by omega) (by omega)
            obtain rfl : N = i := by omega
            refine ab_aload_n hX dX12_seeds_202 mm0 ?_
            refine ab_aload_n hX dX12_seeds_203 mm0 ?_
            refine ab_getfield hX dX12_seeds_204 (fs_X12_40_13 rfl) (mg_o hA) rfl ?_
            refine ab_callV1v hX dX12_seeds_207 (mg_o hA) ss_X12_seeds_118 (cm_X12_again_ahead hG hA) (Nat.le_of_ble_eq_true rfl) ?_
            refine ab_iload_n hX dX12_seeds_210 mm2 ?_
            refine ab_ifne (tgt := 219) hX dX12_seeds_211 (by decide) (fun h_4 => ?_) (fun h_4 => ?_)
            ·
              refine ab_iload hX dX12_seeds_219 mm5 ?_
              exact ab_ireturn hX hF dX12_seeds_221 rfl (by rfl) (congrArg some (congrArg Value.int (by first | rfl | (simp only [seM, seS, h_1, hNc, h_2, h_3, h_4, ↓reduceIte, Bool.false_eq_true]; done) | (simp only [seM, seS, h_1, hNc, h_2, h_3, h_4, ↓reduceIte, Bool.false_eq_true]; rfl) | (unfold seM; (repeat' split) <;> first | rfl | contradiction | (simp_all; done))))) (by first | rfl | (simp only [seM, seS, h_1, hNc, h_2, h_3, h_4, ↓reduceIte, Bool.false_eq_true]; done) | (simp only [seM, seS, h_1, hNc, h_2, h_3, h_4, ↓reduceIte, Bool.false_eq_true]; rfl))
            ·
              refine ab_iload hX dX12_seeds_214 mm4 ?_
              refine ab_goto (tgt := 221) hX dX12_seeds_216 (by decide) ?_
              exact ab_ireturn hX hF dX12_seeds_221 rfl (by rfl) (congrArg some (congrArg Value.int (by first | rfl | (simp only [seM, seS, h_1, hNc, h_2, h_3, h_4, ↓reduceIte, Bool.false_eq_true]; done) | (simp only [seM, seS, h_1, hNc, h_2, h_3, h_4, ↓reduceIte, Bool.false_eq_true]; rfl) | (unfold seM; (repeat' split) <;> first | rfl | contradiction | (simp_all; done))))) (by first | rfl | (simp only [seM, seS, h_1, hNc, h_2, h_3, h_4, ↓reduceIte, Bool.false_eq_true]; done) | (simp only [seM, seS, h_1, hNc, h_2, h_3, h_4, ↓reduceIte, Bool.false_eq_true]; rfl))
          ·
            have hlti_ := ctL (N := N) h_3 (by rfl) (by omega) (by omega)
            refine ab_aload_n hX dX12_seeds_47 mm0 ?_
            refine ab_iconst (v := 0) hX dX12_seeds_48 (by decide) ?_
            refine ab_putfield hX dX12_seeds_49 ps_X12_seeds_51_13 (mg_o hA) (Nat.le_of_ble_eq_true rfl) rfl rfl (mx_5 hA) ?_
            refine ab_iconst (v := 0) hX dX12_seeds_52 (by decide) ?_
            refine ab_istore hX dX12_seeds_53 (by decide) rfl ?_
            have L55 : ∀ (k55_ : Nat) (w : Nat) (hw_ : w ≤ nw), k55_ = nw - w → ab_WA G mX12_seeds X 55 [(0, .ref 42), (1, .int (nI N)), (3, .int what), (4, .int (acc swF (mu1 (acc (soF nl nw) (sdZ s z) i).1 5 0, (acc (soF nl nw) (sdZ s z) i).2.1, (acc (soF nl nw) (sdZ s z) i).2.2.1) w).2.1), (5, .int (acc swF (mu1 (acc (soF nl nw) (sdZ s z) i).1 5 0, (acc (soF nl nw) (sdZ s z) i).2.1, (acc (soF nl nw) (sdZ s z) i).2.2.1) w).2.2), (6, .int (acc (soF nl nw) (sdZ s z) i).2.2.2), (7, .int (nI i)), (8, .int (nI w))] [] (mH A (acc swF (mu1 (acc (soF nl nw) (sdZ s z) i).1 5 0, (acc (soF nl nw) (sdZ s z) i).2.1, (acc (soF nl nw) (sdZ s z) i).2.2.1) w).1 B) := by
              intro k55_
              induction k55_ using Nat.strongRecOn with
              | _ k55_ ih55 =>
                intro w hw_ hk55_
                have hJ := sw_all (q := (mu1 (acc (soF nl nw) (sdZ s z) i).1 5 0, (acc (soF nl nw) (sdZ s z) i).2.1, (acc (soF nl nw) (sdZ s z) i).2.2.1)) (nl := nl) (nw := nw) ⟨hQ.1, hQ.2.1, hQ.2.2.1, hQ.2.2.2, rfl, by omega⟩ w hw_
                refine ab_iload hX dX12_seeds_55 mm7 ?_
                refine ab_aload_n hX dX12_seeds_57 mm0 ?_
                refine ab_getfield hX dX12_seeds_58 (fs_X12_47_13 rfl) (mg_o hA) rfl ?_
                refine ab_icmpge (tgt := 184) hX dX12_seeds_61 (by decide) (fun h_5 => ?_) (fun h_5 => ?_)
                ·
                  have hx_ := ctE (N := nw) h_5 (by exact hJ.2.2.1) (by omega) (by omega)
                  obtain rfl : nw = w := by omega
                  refine ab_iload hX dX12_seeds_184 mm5 ?_
                  refine ab_aload_n hX dX12_seeds_186 mm0 ?_
                  refine ab_callV0r hX dX12_seeds_187 (mg_o hA) ss_X12_seeds_153 (cm_X12_left hG hA hJ) (Nat.le_of_ble_eq_true rfl) ?_
                  refine ab_callS1r hX dX12_seeds_190 ss_X12_seeds_156 (cm_J13_bitCount_95d88 hG) (Nat.le_of_ble_eq_true rfl) ?_
                  refine ab_iadd hX dX12_seeds_193 ?_
                  refine ab_istore hX dX12_seeds_194 (by decide) rfl ?_
                  refine ab_iinc hX dX12_seeds_196 mm6 rfl (by decide) rfl ?_
                  refine ab_goto (tgt := 41) hX dX12_seeds_199 (by decide) ?_
                  exact ab_pm7 mm2 (mmv3 (congrArg Value.int (by rfl))) (mmv4 (congrArg Value.int (by rfl))) (mmv5 (congrArg Value.int (by rw [acc_s (soF nl nw)]; rfl))) (mmv6 (congrArg Value.int (by rw [acc_s (soF nl nw)]; rfl))) (mmv1 (congrArg Value.int (by rw [acc_s (soF nl nw)]; rfl))) (mmv0 (congrArg Value.int (by first | exact (nI_1 _).symm | exact nI_1 _))) (ab_hp (by rw [acc_s (soF nl nw)]; rfl) (ih41 (_) (by omega) (i + 1) (by omega) rfl))
                ·
                  have hltw_ := ctL (N := nw) h_5 (by exact hJ.2.2.1) (by omega) (by omega)
                  refine ab_iconst (v := 0) hX dX12_seeds_64 (by decide) ?_
                  refine ab_istore hX dX12_seeds_65 (by decide) rfl ?_
                  have L67 : ∀ (k67_ : Nat) (k : Nat) (hk_ : k ≤ 4), k67_ = 4 - k → ab_WA G mX12_seeds X 67 [(0, .ref 42), (1, .int (nI N)), (3, .int what), (4, .int (acc sdF ((acc swF (mu1 (acc (soF nl nw) (sdZ s z) i).1 5 0, (acc (soF nl nw) (sdZ s z) i).2.1, (acc (soF nl nw) (sdZ s z) i).2.2.1) w).1, (acc swF (mu1 (acc (soF nl nw) (sdZ s z) i).1 5 0, (acc (soF nl nw) (sdZ s z) i).2.1, (acc (soF nl nw) (sdZ s z) i).2.2.1) w).2.1) k).2), (5, .int (acc swF (mu1 (acc (soF nl nw) (sdZ s z) i).1 5 0, (acc (soF nl nw) (sdZ s z) i).2.1, (acc (soF nl nw) (sdZ s z) i).2.2.1) w).2.2), (6, .int (acc (soF nl nw) (sdZ s z) i).2.2.2), (7, .int (nI i)), (8, .int (nI w)), (9, .int (nI k))] [] (mH A (acc sdF ((acc swF (mu1 (acc (soF nl nw) (sdZ s z) i).1 5 0, (acc (soF nl nw) (sdZ s z) i).2.1, (acc (soF nl nw) (sdZ s z) i).2.2.1) w).1, (acc swF (mu1 (acc (soF nl nw) (sdZ s z) i).1 5 0, (acc (soF nl nw) (sdZ s z) i).2.1, (acc (soF nl nw) (sdZ s z) i).2.2.1) w).2.1) k).1 B) := by
                    intro k67_
                    induction k67_ using Nat.strongRecOn with
                    | _ k67_ ih67 =>
                      intro k hk_ hk67_
                      refine ab_iload hX dX12_seeds_67 mm8 ?_
                      refine ab_iconst (v := 4) hX dX12_seeds_69 (by decide) ?_
                      refine ab_icmpge (tgt := 129) hX dX12_seeds_70 (by decide) (fun h_6 => ?_) (fun h_6 => ?_)
                      ·
                        have hx_ := ctE (N := 4) h_6 (by rfl) (by omega) (by omega)
                        obtain rfl : 4 = k := by omega
                        have hJ4 := sd_mI (z := ((acc swF (mu1 (acc (soF nl nw) (sdZ s z) i).1 5 0, (acc (soF nl nw) (sdZ s z) i).2.1, (acc (soF nl nw) (sdZ s z) i).2.2.1) w).1, (acc swF (mu1 (acc (soF nl nw) (sdZ s z) i).1 5 0, (acc (soF nl nw) (sdZ s z) i).2.1, (acc (soF nl nw) (sdZ s z) i).2.2.1) w).2.1)) 4 hJ
                        have hs4 := hJ4.2.2.2.2.1
                        refine ab_aload_n hX dX12_seeds_129 mm0 ?_
                        refine ab_getfield hX dX12_seeds_130 (fs_X12_19_13 rfl) (mg_o hA) rfl ?_
                        refine ab_aload_n hX dX12_seeds_133 mm0 ?_
                        refine ab_getfield hX dX12_seeds_134 (fs_X12_51_13 rfl) (mg_o hA) rfl ?_
                        refine ab_iload hX dX12_seeds_137 mm7 ?_
                        refine ab_iast (i := w) hX dX12_seeds_139 (mg_7 hA) (by exact hs4) (by omega) (by decide) (mx_7 hA) ?_
                        refine ab_aload_n hX dX12_seeds_140 mm0 ?_
                        refine ab_getfield hX dX12_seeds_141 (fs_X12_16_13 rfl) (mg_o hA) rfl ?_
                        refine ab_aload_n hX dX12_seeds_144 mm0 ?_
                        refine ab_getfield hX dX12_seeds_145 (fs_X12_51_13 rfl) (mg_o hA) rfl ?_
                        refine ab_aload_n hX dX12_seeds_148 mm0 ?_
                        refine ab_iconst (v := 0) hX dX12_seeds_149 (by decide) ?_
                        refine ab_callV1r hX dX12_seeds_150 (mg_o hA) ss_X12_seeds_97 (cm_X12_readSaying hG hA (k := 0) rfl (by decide)) (Nat.le_of_ble_eq_true rfl) ?_
                        refine ab_iast (i := w) hX dX12_seeds_153 (mg_6 hA) (by exact hs4) (by omega) (by decide) (mx_6 hA) ?_
                        refine ab_aload_n hX dX12_seeds_154 mm0 ?_
                        refine ab_aload_n hX dX12_seeds_155 mm0 ?_
                        refine ab_getfield hX dX12_seeds_156 (fs_X12_51_13 rfl) (mg_o hA) rfl ?_
                        refine ab_callV1r hX dX12_seeds_159 (mg_o hA) ss_X12_seeds_128 (cm_X12_isSlip hG hA (j := w) (by exact hs4) (by omega)) (Nat.le_of_ble_eq_true rfl) ?_
                        refine ab_ifeqB (tgt := 168) hX dX12_seeds_162 (by decide) (fun h_7 => ?_) (fun h_7 => ?_)
                        ·
                          refine ab_aload_n hX dX12_seeds_168 mm0 ?_
                          refine ab_dup hX dX12_seeds_169 rfl ?_
                          refine ab_getfield hX dX12_seeds_170 (fs_X12_51_13 rfl) (mg_o hA) rfl ?_
                          refine ab_iconst (v := 1) hX dX12_seeds_173 (by decide) ?_
                          refine ab_iadd hX dX12_seeds_174 ?_
                          refine ab_putfield hX dX12_seeds_175 ps_X12_seeds_51_13 (mg_o hA) (Nat.le_of_ble_eq_true rfl) rfl rfl (mx_5 hA) ?_
                          refine ab_iinc hX dX12_seeds_178 mm7 rfl (by decide) rfl ?_
                          refine ab_goto (tgt := 55) hX dX12_seeds_181 (by decide) ?_
                          exact ab_pm8 mm1 (mmv2 (congrArg Value.int (by rfl))) (mmv3 (congrArg Value.int (by rfl))) (mmv4 (congrArg Value.int (by rw [acc_s swF]; rfl))) (mmv5 (congrArg Value.int (by rw [acc_s swF]; simp only [swF, sw1, h_1, hNc, h_2, h_3, h_5, h_6, h_7, ↓reduceIte, Bool.false_eq_true]; try rfl))) (mmv6 (congrArg Value.int (by rfl))) (mmv7 (congrArg Value.int (by rfl))) (mmv0 (congrArg Value.int (by first | exact (nI_1 _).symm | exact nI_1 _))) (ab_hp (by rw [acc_s swF]; rfl) (ih55 (_) (by omega) (w + 1) (by omega) rfl))
                        ·
                          refine ab_iinc hX dX12_seeds_165 mm4 rfl (by decide) rfl ?_
                          refine ab_aload_n hX dX12_seeds_168 mm1 ?_
                          refine ab_dup hX dX12_seeds_169 rfl ?_
                          refine ab_getfield hX dX12_seeds_170 (fs_X12_51_13 rfl) (mg_o hA) rfl ?_
                          refine ab_iconst (v := 1) hX dX12_seeds_173 (by decide) ?_
                          refine ab_iadd hX dX12_seeds_174 ?_
                          refine ab_putfield hX dX12_seeds_175 ps_X12_seeds_51_13 (mg_o hA) (Nat.le_of_ble_eq_true rfl) rfl rfl (mx_5 hA) ?_
                          refine ab_iinc hX dX12_seeds_178 mm7 rfl (by decide) rfl ?_
                          refine ab_goto (tgt := 55) hX dX12_seeds_181 (by decide) ?_
                          exact ab_pm8 mm2 (mmv3 (congrArg Value.int (by rfl))) (mmv4 (congrArg Value.int (by rfl))) (mmv5 (congrArg Value.int (by rw [acc_s swF]; rfl))) (mmv1 (congrArg Value.int (by rw [acc_s swF]; simp only [swF, sw1, h_1, hNc, h_2, h_3, h_5, h_6, h_7, ↓reduceIte, Bool.false_eq_true]; try rfl))) (mmv6 (congrArg Value.int (by rfl))) (mmv7 (congrArg Value.int (by rfl))) (mmv0 (congrArg Value.int (by first | exact (nI_1 _).symm | exact nI_1 _))) (ab_hp (by rw [acc_s swF]; rfl) (ih55 (_) (by omega) (w + 1) (by omega) rfl))
                      ·
                        have hltk_ := ctL (N := 4) h_6 (by rfl) (by omega) (by omega)
                        refine ab_iload hX dX12_seeds_73 mm3 ?_
                        refine ab_ldc hX dX12_seeds_75 tw_1368 ?_
                        refine ab_imul hX dX12_seeds_77 ?_
                        refine ab_sipush (v := 12345) hX dX12_seeds_78 (by decide) ?_
                        refine ab_iadd hX dX12_seeds_81 ?_
                        refine ab_istore hX dX12_seeds_82 (by decide) rfl ?_
                        refine ab_aload_n hX dX12_seeds_84 mm1 ?_
                        refine ab_getfield hX dX12_seeds_85 (fs_X12_34_13 rfl) (mg_o hA) rfl ?_
                        refine ab_iload hX dX12_seeds_88 mm8 ?_
                        refine ab_iload hX dX12_seeds_90 mm0 ?_
                        refine ab_ldc hX dX12_seeds_92 tw_1369 ?_
                        refine ab_iand hX dX12_seeds_94 ?_
                        refine ab_ldc hX dX12_seeds_95 tw_1370 ?_
                        refine ab_idiv hX dX12_seeds_97 (by decide) ?_
                        refine ab_iload hX dX12_seeds_98 mm8 ?_
                        refine ab_ifne (tgt := 108) hX dX12_seeds_100 (by decide) (fun h_8 => ?_) (fun h_8 => ?_)
                        ·
                          refine ab_iload hX dX12_seeds_108 mm8 ?_
                          refine ab_iconst (v := 1) hX dX12_seeds_110 (by decide) ?_
                          refine ab_icmpne (tgt := 119) hX dX12_seeds_111 (by decide) (fun h_9 => ?_) (fun h_9 => ?_)
                          ·
                            refine ab_bipush (v := 6) hX dX12_seeds_119 (by decide) ?_
                            refine ab_irem hX dX12_seeds_121 (by decide) ?_
                            refine ab_iast (i := k) hX dX12_seeds_122 (mg_14 hA) rfl (by omega) (by decide) (mx_14 hA) ?_
                            refine ab_iinc hX dX12_seeds_123 mm8 rfl (by decide) rfl ?_
                            refine ab_goto (tgt := 67) hX dX12_seeds_126 (by decide) ?_
                            exact ab_pm9 mm2 (mmv3 (congrArg Value.int (by rfl))) (mmv4 (congrArg Value.int (by rfl))) (mmv1 (congrArg Value.int (by rw [acc_s sdF]; rfl))) (mmv5 (congrArg Value.int (by rfl))) (mmv6 (congrArg Value.int (by rfl))) (mmv7 (congrArg Value.int (by rfl))) (mmv8 (congrArg Value.int (by rfl))) (mmv0 (congrArg Value.int (by first | exact (nI_1 _).symm | exact nI_1 _))) (ab_hp (by rw [acc_s sdF]; simp only [sdF, sdV, h_1, hNc, h_2, h_3, h_5, h_6, h_8, h_9, i1_0, ↓reduceIte]) (ih67 (_) (by omega) (k + 1) (by omega) rfl))
                          ·
                            refine ab_bipush (v := 10) hX dX12_seeds_114 (by decide) ?_
                            refine ab_goto (tgt := 121) hX dX12_seeds_116 (by decide) ?_
                            refine ab_irem hX dX12_seeds_121 (by decide) ?_
                            refine ab_iast (i := k) hX dX12_seeds_122 (mg_14 hA) rfl (by omega) (by decide) (mx_14 hA) ?_
                            refine ab_iinc hX dX12_seeds_123 mm8 rfl (by decide) rfl ?_
                            refine ab_goto (tgt := 67) hX dX12_seeds_126 (by decide) ?_
                            exact ab_pm9 mm2 (mmv3 (congrArg Value.int (by rfl))) (mmv4 (congrArg Value.int (by rfl))) (mmv1 (congrArg Value.int (by rw [acc_s sdF]; rfl))) (mmv5 (congrArg Value.int (by rfl))) (mmv6 (congrArg Value.int (by rfl))) (mmv7 (congrArg Value.int (by rfl))) (mmv8 (congrArg Value.int (by rfl))) (mmv0 (congrArg Value.int (by first | exact (nI_1 _).symm | exact nI_1 _))) (ab_hp (by rw [acc_s sdF]; simp only [sdF, sdV, h_1, hNc, h_2, h_3, h_5, h_6, h_8, h_9, i1_0, ↓reduceIte]) (ih67 (_) (by omega) (k + 1) (by omega) rfl))
                        ·
                          refine ab_bipush (v := 8) hX dX12_seeds_103 (by decide) ?_
                          refine ab_goto (tgt := 121) hX dX12_seeds_105 (by decide) ?_
                          refine ab_irem hX dX12_seeds_121 (by decide) ?_
                          refine ab_iast (i := k) hX dX12_seeds_122 (mg_14 hA) rfl (by omega) (by decide) (mx_14 hA) ?_
                          refine ab_iinc hX dX12_seeds_123 mm8 rfl (by decide) rfl ?_
                          refine ab_goto (tgt := 67) hX dX12_seeds_126 (by decide) ?_
                          exact ab_pm9 mm2 (mmv3 (congrArg Value.int (by rfl))) (mmv4 (congrArg Value.int (by rfl))) (mmv1 (congrArg Value.int (by rw [acc_s sdF]; rfl))) (mmv5 (congrArg Value.int (by rfl))) (mmv6 (congrArg Value.int (by rfl))) (mmv7 (congrArg Value.int (by rfl))) (mmv8 (congrArg Value.int (by rfl))) (mmv0 (congrArg Value.int (by first | exact (nI_1 _).symm | exact nI_1 _))) (ab_hp (by rw [acc_s sdF]; simp only [sdF, sdV, h_1, hNc, h_2, h_3, h_5, h_6, h_8, i1_0, ↓reduceIte]) (ih67 (_) (by omega) (k + 1) (by omega) rfl))
                  exact ab_pm9 mm1 (mmv2 (congrArg Value.int (by rfl))) (mmv3 (congrArg Value.int (by rfl))) (mmv4 (congrArg Value.int (by rfl))) (mmv5 (congrArg Value.int (by rfl))) (mmv6 (congrArg Value.int (by rfl))) (mmv7 (congrArg Value.int (by rfl))) (mmv8 (congrArg Value.int (by rfl))) (mmv0 (congrArg Value.int (by rfl))) (L67 _ 0 (by omega) rfl)
            exact ab_pm8 mm1 (mmv2 (congrArg Value.int (by rfl))) (mmv3 (congrArg Value.int (by rfl))) (mmv4 (congrArg Value.int (by rfl))) (mmv5 (congrArg Value.int (by rfl))) (mmv6 (congrArg Value.int (by rfl))) (mmv7 (congrArg Value.int (by rfl))) (mmv0 (congrArg Value.int (by rfl))) (L55 _ 0 (by omega) rfl)
      exact ab_pm7 mm4 (mmv5 (congrArg Value.int (by rfl))) (mmv7 (congrArg Value.int (by rfl))) (mmv3 (congrArg Value.int (by rfl))) (mmv2 (congrArg Value.int (by rfl))) (mmv1 (congrArg Value.int (by rfl))) (mmv0 (congrArg Value.int (by rfl))) (L41 _ 0 (by omega) rfl)
    ·
      refine ab_iconst (v := (-1)) hX dX12_seeds_19 (by decide) ?_
      exact ab_ireturn hX hF dX12_seeds_20 rfl (by rfl) (congrArg some (congrArg Value.int (by first | rfl | (simp only [seM, seS, h_1, hNc, h_2, ↓reduceIte, Bool.false_eq_true]; done) | (simp only [seM, seS, h_1, hNc, h_2, ↓reduceIte, Bool.false_eq_true]; rfl) | (unfold seM; (repeat' split) <;> first | rfl | contradiction | (simp_all; done))))) (by first | rfl | (simp only [seM, seS, h_1, hNc, h_2, ↓reduceIte, Bool.false_eq_true]; done) | (simp only [seM, seS, h_1, hNc, h_2, ↓reduceIte, Bool.false_eq_true]; rfl))
