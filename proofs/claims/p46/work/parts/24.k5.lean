def f1C (i : Nat) : Int32 := nI i / 6 - nI i / 6 / 6 * 6
def f2C (i : Nat) : Int32 := nI i - nI i / 6 * 6
def wcC (i : Nat) : Int64 := wS (i / 36) 0 (f1C i) (f2C i)
def ilB (c : CS) (i : Nat) (w : Int32) : Bool := if fcV (i / 36) 0 (f1C i) (f2C i) &&& (kbT c 0 w ^^^ (-1)) = 0 then !hwB (wcC i) (c.1 (20 + 0)) else false
def liG (c : CS) (lf : Int64) (w : Int32) (i : Nat) (p : Int32 × Int32 × Int32) : Int32 × Int32 × Int32 := if ilB c i w = true then (if lbc (lf &&& (wcC i ^^^ (-1))) ≤ p.2.2 then (p.1 + 1, p.2.1, p.2.2) else (p.1 + 1, 100 * (nI i / 36) + 10 * f1C i + f2C i, lbc (lf &&& (wcC i ^^^ (-1))))) else p
def liP (c : CS) (lf : Int64) (w : Int32) : Int32 × Int32 × Int32 := acc (liG c lf w) (0, -4, -4) 288
def lieC (c : CS) (lf : Int64) (w what : Int32) : Int32 := if hwT c 0 w = true then (if iw what 0 2 = true then (if what = 0 then (liP c lf w).1 else if what = 1 then (liP c lf w).2.1 else (liP c lf w).2.2) else -1) else -1
theorem kd36 {i : Nat} (h : i < 288) : nI i / 36 = nI (i / 36) := pk_div (a := i) (d := 36) (by omega) (by decide) (by decide)
/-- a drawn number -/
theorem dr_in {m : Nat} (hm : 0 < m) (hm2 : m ≤ 10) (x : Int32) : ∃ j, j < m ∧ drB (nI m) x = nI j := by
  obtain ⟨a, ha, e⟩ := pk_andE x (m := 2147483647) 31 (by decide)
  have ed : nI a / 65536 = nI (a / 65536) := pk_div (a := a) (d := 65536) (by omega) (by decide) (by decide)
  refine ⟨a / 65536 % m, Nat.mod_lt _ hm, ?_⟩
  rw [drB, if_pos (show (0 : Int32) < nI m from nI_lt (a := 0) hm (by omega)), e, ed]
  exact pk_rem (by omega) hm (by omega)
def wdC (z : Int32) : Int64 := wS (tn (drB 8 (nxS z))) (drB 10 (nxS (nxS z))) (drB 6 (nxS (nxS (nxS z)))) (drB 6 (nxS (nxS (nxS (nxS z)))))
def sgG (t : Int32) (_ : Nat) (q : Int32 × Int32 × Int64) : Int32 × Int32 × Int64 := (nxS (nxS (nxS (nxS q.1))), q.2.1 + bi (hwB (wdC q.1) t), q.2.2 &&& (wdC q.1 ^^^ (-1)))
def sgO (t : Int32) (mb : Int64) (nw : Nat) (_ : Nat) (q : Int32 × Int32 × Int32) : Int32 × Int32 × Int32 := ((acc (sgG t) (q.1, q.2.1, mb) nw).1, (acc (sgG t) (q.1, q.2.1, mb) nw).2.1, q.2.2 + lbc (acc (sgG t) (q.1, q.2.1, mb) nw).2.2)
def sedC (t : Int32) (mb : Int64) (nw : Nat) (n z what : Int32) : Int32 := if iw n 1 20 = true then (if eoB what = true then (if what = 0 then (acc (sgO t mb nw) (z, 0, 0) (tn n)).2.1 else (acc (sgO t mb nw) (z, 0, 0) (tn n)).2.2) else -1) else -1
def pnF (t : Int32) (m : Nat) (i : Nat) (b : Int64) : Int64 := b + acc woF 1 (m + i) * acc (poF t) 1 (m + i) * acc (poF (10 - t)) 1 (12 - (m + i))
def pnA (t : Int32) (m : Nat) : Int64 := acc (pnF t m) 0 (13 - m)
def pnB : Int64 := acc (poF 10) 1 12
def penI (a : Int64) (part : Int32) : Int64 := if gdC 100 a pnB = 0 then noL else ptV a pnB (gdC 100 a pnB) part
def penC (t n part : Int32) : Int64 := if iw t 1 9 = true then (if iw n 0 12 = true then (if eoB part = true then penI (pnA t (tn n)) part else noL) else noL) else noL
theorem penI_0 {a : Int64} {part : Int32} (h : gdC 100 a pnB = 0) : penI a part = noL := if_pos h
theorem penI_1 {a : Int64} {part : Int32} (h : ¬ gdC 100 a pnB = 0) : penI a part = ptV a pnB (gdC 100 a pnB) part := if_neg h
theorem ptV_0 {x y g : Int64} {part : Int32} (h : part = 0) : ptV x y g part = x / g := if_pos h
theorem ptV_1 {x y g : Int64} {part : Int32} (h : ¬ part = 0) : ptV x y g part = y / g := if_neg h
/-- rows: their length -/
def rwI (c : CS) : Prop := ∀ d, d < 8 → c.1 (50 + d) = 2 → ∃ n, n ≤ 100 ∧ c.1 (80 + d) = nI n
theorem rf2 {c : CS} {d : Nat} (h : rfU c d 2 = 0) : c.1 (50 + d) = 2 := by
  unfold rfU at h
  by_cases q : c.1 (50 + d) = 2
  · exact q
  · rw [if_neg q] at h
    by_cases q2 : c.1 (50 + d) = 0
    · rw [if_pos q2] at h; exact absurd h (by decide)
    · rw [if_neg q2] at h; exact absurd h (by decide)
def fiG (c : CS) (d : Nat) (qs : Nat → SY) (i : Nat) (b : Int64) : Int64 := if skB c d (nI i) = true then b else if nuA c d (nI i) = 1 then b &&& wY (qs i) else b &&& (wY (qs i) ^^^ (-1))
def fitC (c : CS) (ql : Nat → SY) (nl : Nat) (qs : Nat → SY) (d : Int32) : Int64 := if iw d 0 7 = true then (if rfU c (tn d) 2 = 0 then (if c.1 (30 + (2 * 0 + 1)) < c.1 (80 + tn d) then refL (-13) else if tfN c (tn d) (tn (c.1 (80 + tn d))) 0 = true then acc (fiG c (tn d) qs) (mbT ql nl) (tn (c.1 (80 + tn d))) else refL (-13)) else refL (rfU c (tn d) 2)) else noL
def ljG (qs : Nat → SY) (ns : Nat) (k : Nat) (b : Int64) : Int64 := if k < ns then b &&& (wY (qs k) ^^^ (-1)) else b
def ljV (qs : Nat → SY) (ns : Nat) (mb : Int64) (i : Nat) : Int64 := acc (ljG qs ns) mb i
def jgN (c : CS) (d : Nat) (qs : Nat → SY) (ns : Nat) (mb : Int64) : Nat → Nat → Int32
  | 0, _ => -4
  | k + 1, i => if c.1 (30 + (2 * 0 + 1)) < nI i then (if skB c d (nI i) = true then jgN c d qs ns mb k (i + 1) else nI i) else if nuA c d (nI i) = lbc (ljV qs ns mb i) then jgN c d qs ns mb k (i + 1) else if skB c d (nI i) = true then jgN c d qs ns mb k (i + 1) else nI i
theorem jgN_s {c : CS} {d : Nat} {qs : Nat → SY} {ns : Nat} {mb : Int64} {k i : Nat} : jgN c d qs ns mb (k + 1) i = if c.1 (30 + (2 * 0 + 1)) < nI i then (if skB c d (nI i) = true then jgN c d qs ns mb k (i + 1) else nI i) else if nuA c d (nI i) = lbc (ljV qs ns mb i) then jgN c d qs ns mb k (i + 1) else if skB c d (nI i) = true then jgN c d qs ns mb k (i + 1) else nI i := rfl
def jgC (c : CS) (ql : Nat → SY) (nl : Nat) (qs : Nat → SY) (ns : Nat) (d : Int32) : Int32 := if iw d 0 7 = true then (if rfU c (tn d) 2 = 0 then jgN c (tn d) qs ns (mbT ql nl) (tn (c.1 (80 + tn d))) 0 else rfU c (tn d) 2) else -1
theorem lj_1 {qs : Nat → SY} {ns : Nat} {mb : Int64} {i q : Nat} (h : i = q + 1) (hq : q < ns) : ljV qs ns mb i = ljV qs ns mb (i - 1) &&& (wY (qs q) ^^^ (-1)) := by
  subst h
  exact if_pos hq
theorem lj_2 {qs : Nat → SY} {ns : Nat} {mb : Int64} {i q : Nat} (h : i = q + 1) (hq : ns ≤ q) : ljV qs ns mb i = ljV qs ns mb (i - 1) := by
  subst h
  exact if_neg (by omega)
theorem jg_cs (ns i : Nat) : i = 0 ∨ (∃ q, i = q + 1 ∧ q < ns) ∨ ∃ q, i = q + 1 ∧ ns ≤ q := by
  cases i with
  | zero => exact Or.inl rfl
  | succ q =>
    rcases Nat.lt_or_ge q ns with h | h
    · exact Or.inr (Or.inl ⟨q, rfl, h⟩)
    · exact Or.inr (Or.inr ⟨q, rfl, h⟩)
theorem jg_no {m : Int32} {ns q : Nat} (hm : m = nI ns) (hn : ns ≤ 10) (h : ns ≤ q) (hq : q < 1000) : iw (nI q) 0 (m - 1) = false := by
  apply iwF3
  rw [hm, Int32.lt_iff_toInt_lt]
  rw [nI_toInt (by omega)]
  cases ns with
  | zero => have e : (nI 0 - 1).toInt = -1 := by decide
            omega
  | succ k => rw [nI_pred, nI_toInt (by omega)]; omega
/-- the text: where it breaks -/
theorem dg_ok {x : Int32} (h : 0 ≤ dgC x) : ∃ m, m ≤ 5 ∧ dgC x = nI m ∧ tn (dgC x) = m := by
  unfold dgC at h ⊢
  by_cases c1 : x = 108
  · rw [if_pos c1]; exact ⟨4, by decide, rfl, by decide⟩
  · rw [if_neg c1] at h ⊢
    by_cases c2 : x = 115
    · rw [if_pos c2]; exact ⟨5, by decide, rfl, by decide⟩
    · rw [if_neg c2] at h ⊢
      by_cases c3 : x = 116
      · rw [if_pos c3]; exact ⟨2, by decide, rfl, by decide⟩
      · rw [if_neg c3] at h ⊢
        by_cases c4 : x = 119
        · rw [if_pos c4]; exact ⟨2, by decide, rfl, by decide⟩
        · rw [if_neg c4] at h; exact absurd h (by decide)
def biN (c : CS) (d p : Nat) : Nat → Nat → Option Nat
  | 0, _ => none
  | r + 1, j => if isD (nuA c d (nI (p + j))) = true then biN c d p r (j + 1) else some (p + j)
theorem biN_s {c : CS} {d p r j : Nat} : biN c d p (r + 1) j = if isD (nuA c d (nI (p + j))) = true then biN c d p r (j + 1) else some (p + j) := rfl
def bpN (c : CS) (d : Nat) : Nat → Nat → Int32
  | 0, _ => -1
  | k + 1, p => if 0 ≤ dgC (nuA c d (nI p)) then (match biN c d p (tn (dgC (nuA c d (nI p)))) 1 with
      | some q => nI q
      | none => if nuA c d (nI (p + (tn (dgC (nuA c d (nI p))) + 1))) = 59 then (if nI (p + (tn (dgC (nuA c d (nI p))) + 1) + 1) < c.1 (80 + d) then bpN c d k (p + (tn (dgC (nuA c d (nI p))) + 1) + 1) else -1) else nI (p + (tn (dgC (nuA c d (nI p))) + 1))) else nI p
theorem bpN_s {c : CS} {d k p : Nat} : bpN c d (k + 1) p = if 0 ≤ dgC (nuA c d (nI p)) then (match biN c d p (tn (dgC (nuA c d (nI p)))) 1 with
      | some q => nI q
      | none => if nuA c d (nI (p + (tn (dgC (nuA c d (nI p))) + 1))) = 59 then (if nI (p + (tn (dgC (nuA c d (nI p))) + 1) + 1) < c.1 (80 + d) then bpN c d k (p + (tn (dgC (nuA c d (nI p))) + 1) + 1) else -1) else nI (p + (tn (dgC (nuA c d (nI p))) + 1))) else nI p := rfl
theorem cm_X11_worldsOfCode {G : ab_G} (hG : ab_GG G) {c : CS} {M D : List ab_E} (hM : M.length = 1) {i : Nat} (hi : i < 288) : ab_CM G mX11_worldsOfCode [.ref 0, .int (nI i)] (cH c M D) (some (.long (wcC i))) (cH c M D) := by
  refine ab_meth (l0 := [(0, .ref 0), (1, .int (nI i))]) hG (by decide +kernel) rfl (Nat.le_of_ble_eq_true rfl) (Nat.le_refl _) (Nat.le_refl _) (fun X hX hF => ?_)
  refine ab_aload_n hX dX11_worldsOfCode_0 mm0 ?_
  refine ab_iload_n hX dX11_worldsOfCode_1 mm1 ?_
  refine ab_callS1r hX dX11_worldsOfCode_2 ss_X11_worldsOfCode_261 (cm_X11_kindOfCode hG) (Nat.le_of_ble_eq_true rfl) ?_
  rw [kd36 hi]
  refine ab_callV1r hX dX11_worldsOfCode_5 cg_x ss_X11_worldsOfCode_337 (kn_ok hG hM (k := i / 36) (by omega)) (Nat.le_of_ble_eq_true rfl) ?_
  refine ab_astore_n hX dX11_worldsOfCode_8 rfl (by decide) rfl ?_
  refine ab_aload_n hX dX11_worldsOfCode_9 mm0 ?_
  refine ab_ifnonnull (tgt := 17) hX dX11_worldsOfCode_10 (by decide) ?_
  refine ab_aload_n hX dX11_worldsOfCode_17 mm0 ?_
  refine ab_iconst (v := 0) hX dX11_worldsOfCode_18 (by decide) ?_
  refine ab_iload_n hX dX11_worldsOfCode_19 mm2 ?_
  refine ab_callS1r hX dX11_worldsOfCode_20 ss_X11_worldsOfCode_264 (cm_X11_firstOfCode hG) (Nat.le_of_ble_eq_true rfl) ?_
  refine ab_iload_n hX dX11_worldsOfCode_23 mm2 ?_
  refine ab_callS1r hX dX11_worldsOfCode_24 ss_X11_worldsOfCode_267 (cm_X11_secondOfCode hG) (Nat.le_of_ble_eq_true rfl) ?_
  obtain ⟨Z_, ci_, fs_, hg_, hs_, hc_⟩ := vz_X11_worldsOfCode_393 hG (c := c) (M := M) (D := D) hM (show i / 36 < 8 by omega)
  refine ab_callV3r hX dX11_worldsOfCode_27 hg_ hs_ (hc_ _ _ _) (Nat.le_of_ble_eq_true rfl) ?_
  exact ab_lreturn hX hF dX11_worldsOfCode_30 rfl (congrArg some (congrArg Value.long (by rfl))) (by rfl)
theorem cm_X11_isLie {G : ab_G} (hG : ab_GG G) {c : CS} {M D : List ab_E} (hM : M.length = 1) {i : Nat} (hi : i < 288) {w : Int32} : ab_CM G mX11_isLie [.ref 0, .int (nI i), .int w] (cH c M D) (some (.int (bi (ilB c i w)))) (cH c M D) := by
  refine ab_meth (l0 := [(0, .ref 0), (1, .int (nI i)), (2, .int w)]) hG (by decide +kernel) rfl (Nat.le_of_ble_eq_true rfl) (Nat.le_refl _) (Nat.le_refl _) (fun X hX hF => ?_)
  refine ab_aload_n hX dX11_isLie_0 mm0 ?_
  refine ab_iload_n hX dX11_isLie_1 mm1 ?_
  refine ab_callS1r hX dX11_isLie_2 ss_X11_isLie_261 (cm_X11_kindOfCode hG) (Nat.le_of_ble_eq_true rfl) ?_
  rw [kd36 hi]
  refine ab_callV1r hX dX11_isLie_5 cg_x ss_X11_isLie_337 (kn_ok hG hM (k := i / 36) (by omega)) (Nat.le_of_ble_eq_true rfl) ?_
  refine ab_astore_n hX dX11_isLie_8 rfl (by decide) rfl ?_
  refine ab_aload_n hX dX11_isLie_9 mm0 ?_
  refine ab_ifnonnull (tgt := 15) hX dX11_isLie_10 (by decide) ?_
  refine ab_aload_n hX dX11_isLie_15 mm0 ?_
  refine ab_iconst (v := 0) hX dX11_isLie_16 (by decide) ?_
  refine ab_iload_n hX dX11_isLie_17 mm2 ?_
  refine ab_callS1r hX dX11_isLie_18 ss_X11_isLie_264 (cm_X11_firstOfCode hG) (Nat.le_of_ble_eq_true rfl) ?_
  refine ab_iload_n hX dX11_isLie_21 mm2 ?_
  refine ab_callS1r hX dX11_isLie_22 ss_X11_isLie_267 (cm_X11_secondOfCode hG) (Nat.le_of_ble_eq_true rfl) ?_
  obtain ⟨Z_, ci_, fs_, hg_, hs_, hc_⟩ := vz_X11_isLie_435 hG (c := c) (M := M) (D := D) (show i / 36 < 8 by omega)
  refine ab_callV3r hX dX11_isLie_25 hg_ hs_ (hc_ _ _ _) (Nat.le_of_ble_eq_true rfl) ?_
  refine ab_istore hX dX11_isLie_28 (by decide) rfl ?_
  refine ab_iload hX dX11_isLie_30 mm0 ?_
  refine ab_aload_n hX dX11_isLie_32 mm2 ?_
  refine ab_getfield hX dX11_isLie_33 (fs_X11_25_12 rfl) cg_x rfl ?_
  refine ab_iload_n hX dX11_isLie_36 mm4 ?_
  refine ab_callV1r hX dX11_isLie_37 (cg_tr (show 0 < 3 by decide)) ss_X11_isLie_132 (cm_X10_knownBy hG hM (show 0 < 3 by decide)) (Nat.le_of_ble_eq_true rfl) ?_
  refine ab_iconst (v := (-1)) hX dX11_isLie_40 (by decide) ?_
  refine ab_ixor hX dX11_isLie_41 ?_
  refine ab_iand hX dX11_isLie_42 ?_
  refine ab_ifne (tgt := 68) hX dX11_isLie_43 (by decide) (fun h_1 => ?_) (fun h_1 => ?_)
  ·
    refine ab_iconst (v := 0) hX dX11_isLie_68 (by decide) ?_
    exact ab_ireturn hX hF dX11_isLie_69 rfl (by first | rfl | exact bi_n _) (congrArg some (congrArg Value.int (by first | (simp only [ilB, f1C, f2C, h_1, ↓reduceIte, Bool.not_true, Bool.not_false, bi_t, bi_f]; done) | (unfold ilB; rw [if_neg ‹¬ _ = 0›]; rfl)))) (by rfl)
  ·
    refine ab_aload_n hX dX11_isLie_46 mm2 ?_
    refine ab_iload_n hX dX11_isLie_47 mm3 ?_
    refine ab_callV1r hX dX11_isLie_48 cg_x ss_X11_isLie_258 (cm_X11_worldsOfCode hG hM (by omega)) (Nat.le_of_ble_eq_true rfl) ?_
    refine ab_aload_n hX dX11_isLie_51 mm2 ?_
    refine ab_getfield hX dX11_isLie_52 (fs_X11_25_12 rfl) cg_x rfl ?_
    refine ab_getfield hX dX11_isLie_55 (fs_X11_114_11 rfl) (cg_tr (show 0 < 3 by decide)) rfl ?_
    refine ab_callS2r hX dX11_isLie_58 ss_X11_isLie_117 (cm_X11_hasWorld hG) (Nat.le_of_ble_eq_true rfl) ?_
    refine ab_ifneB (tgt := 68) hX dX11_isLie_61 (by decide) (fun h_2 => ?_) (fun h_2 => ?_)
    ·
      refine ab_iconst (v := 0) hX dX11_isLie_68 (by decide) ?_
      exact ab_ireturn hX hF dX11_isLie_69 rfl (by first | rfl | exact bi_n _) (congrArg some (congrArg Value.int (by first | (simp only [ilB, f1C, f2C, h_1, h_2, ↓reduceIte, Bool.not_true, Bool.not_false, bi_t, bi_f]; done) | (unfold ilB; rw [if_neg ‹¬ _ = 0›]; rfl)))) (by rfl)
    ·
      refine ab_iconst (v := 1) hX dX11_isLie_64 (by decide) ?_
      refine ab_goto (tgt := 69) hX dX11_isLie_65 (by decide) ?_
      exact ab_ireturn hX hF dX11_isLie_69 rfl (by first | rfl | exact bi_n _) (congrArg some (congrArg Value.int (by first | (simp only [ilB, f1C, f2C, h_1, h_2, ↓reduceIte, Bool.not_true, Bool.not_false, bi_t, bi_f]; done) | (unfold ilB; rw [if_neg ‹¬ _ = 0›]; rfl)))) (by rfl)
theorem cm_X11_lie {G : ab_G} (hG : ab_GG G) {c : CS} {M D : List ab_E} (hM : M.length = 1) {w : Int32} {what : Int32} {nl : Nat} {ql : Nat → SY} (hL0 : cL c D (2 * 0) nl ql) {ns : Nat} {qs : Nat → SY} (hL1 : cL c D (2 * 0 + 1) ns qs)  : ab_CM G mX11_lie [.ref 0, .int w, .int what] (cH c M D) (some (.int (lieC c (lfT ql nl qs ns) w what))) (cH c M D) := by
  refine ab_meth (l0 := [(0, .ref 0), (1, .int w), (2, .int what)]) hG (by decide +kernel) rfl (Nat.le_of_ble_eq_true rfl) (Nat.le_refl _) (Nat.le_refl _) (fun X hX hF => ?_)
  have h10 := hL0.2.1
  have h11 := hL1.2.1
  refine ab_aload_n hX dX11_lie_0 mm0 ?_
  refine ab_getfield hX dX11_lie_1 (fs_X11_25_12 rfl) cg_x rfl ?_
  refine ab_iload_n hX dX11_lie_4 mm1 ?_
  refine ab_callV1r hX dX11_lie_5 (cg_tr (show 0 < 3 by decide)) ss_X11_lie_128 (cm_X10_hasWitness hG hM (show 0 < 3 by decide)) (Nat.le_of_ble_eq_true rfl) ?_
  refine ab_ifeqB (tgt := 20) hX dX11_lie_8 (by decide) (fun h_1 => ?_) (fun h_1 => ?_)
  ·
    refine ab_iconst (v := (-1)) hX dX11_lie_20 (by decide) ?_
    exact ab_ireturn hX hF dX11_lie_21 rfl (by rfl) (congrArg some (congrArg Value.int (by first | rfl | (simp only [lieC, liP, h_1, ↓reduceIte, Bool.false_eq_true]; done) | (simp only [lieC, liP, h_1, ↓reduceIte, Bool.false_eq_true]; rfl) | (unfold lieC; (repeat' split) <;> first | rfl | contradiction | (simp_all; done))))) (by rfl)
  ·
    refine ab_iload_n hX dX11_lie_11 mm2 ?_
    refine ab_iflt (tgt := 20) hX dX11_lie_12 (by decide) (fun h_2 => ?_) (fun h_2 => ?_)
    ·
      have hwc := iwF1 (hi := 2) h_2
      refine ab_iconst (v := (-1)) hX dX11_lie_20 (by decide) ?_
      exact ab_ireturn hX hF dX11_lie_21 rfl (by rfl) (congrArg some (congrArg Value.int (by first | rfl | (simp only [lieC, liP, h_1, h_2, hwc, ↓reduceIte, Bool.false_eq_true]; done) | (simp only [lieC, liP, h_1, h_2, hwc, ↓reduceIte, Bool.false_eq_true]; rfl) | (unfold lieC; (repeat' split) <;> first | rfl | contradiction | (simp_all; done))))) (by rfl)
    ·
      refine ab_iload_n hX dX11_lie_15 mm2 ?_
      refine ab_iconst (v := 2) hX dX11_lie_16 (by decide) ?_
      refine ab_icmple (tgt := 22) hX dX11_lie_17 (by decide) (fun h_3 => ?_) (fun h_3 => ?_)
      ·
        have hwc := iwT ‹¬ what < 0› h_3
        refine ab_aload_n hX dX11_lie_22 mm0 ?_
        refine ab_getfield hX dX11_lie_23 (fs_X11_25_12 rfl) cg_x rfl ?_
        refine ab_callV0r hX dX11_lie_26 (cg_tr (show 0 < 3 by decide)) ss_X11_lie_198 (cm_X10_left hG hM (show 0 < 3 by decide) hL0 hL1) (Nat.le_of_ble_eq_true rfl) ?_
        refine ab_lstore_n hX dX11_lie_29 rfl (by decide) rfl ?_
        refine ab_iconst (v := 0) hX dX11_lie_30 (by decide) ?_
        refine ab_istore hX dX11_lie_31 (by decide) rfl ?_
        refine ab_bipush (v := (-4)) hX dX11_lie_33 (by decide) ?_
        refine ab_istore hX dX11_lie_35 (by decide) rfl ?_
        refine ab_bipush (v := (-4)) hX dX11_lie_37 (by decide) ?_
        refine ab_istore hX dX11_lie_39 (by decide) rfl ?_
        refine ab_iconst (v := 0) hX dX11_lie_41 (by decide) ?_
        refine ab_istore hX dX11_lie_42 (by decide) rfl ?_
        have L44 : ∀ (k44_ : Nat) (i : Nat) (hi_ : i ≤ 288), k44_ = 288 - i → ab_WA G mX11_lie X 44 [(0, .ref 0), (1, .int w), (2, .int what), (3, .long (lfT ql nl qs ns)), (5, .int (acc (liG c (lfT ql nl qs ns) w) (0, -4, -4) i).1), (6, .int (acc (liG c (lfT ql nl qs ns) w) (0, -4, -4) i).2.1), (7, .int (acc (liG c (lfT ql nl qs ns) w) (0, -4, -4) i).2.2), (8, .int (nI i))] [] (cH c M D) := by
          intro k44_
          induction k44_ using Nat.strongRecOn with
          | _ k44_ ih44 =>
            intro i hi_ hk44_
            refine ab_iload hX dX11_lie_44 mm7 ?_
            refine ab_sipush (v := 288) hX dX11_lie_46 (by decide) ?_
            refine ab_icmpge (tgt := 127) hX dX11_lie_49 (by decide) (fun h_4 => ?_) (fun h_4 => ?_)
            ·
              have hx_ := ctE (N := 288) h_4 (by rfl) (by omega) (by omega)
              obtain rfl : 288 = i := by omega
              refine ab_iload_n hX dX11_lie_127 mm2 ?_
              refine ab_ifne (tgt := 134) hX dX11_lie_128 (by decide) (fun h_5 => ?_) (fun h_5 => ?_)
              ·
                refine ab_iload_n hX dX11_lie_134 mm2 ?_
                refine ab_iconst (v := 1) hX dX11_lie_135 (by decide) ?_
                refine ab_icmpne (tgt := 144) hX dX11_lie_136 (by decide) (fun h_6 => ?_) (fun h_6 => ?_)
                ·
                  refine ab_iload hX dX11_lie_144 mm6 ?_
                  exact ab_ireturn hX hF dX11_lie_146 rfl (by rfl) (congrArg some (congrArg Value.int (by first | rfl | (simp only [lieC, liP, h_1, h_2, h_3, hwc, h_4, h_5, h_6, ↓reduceIte, Bool.false_eq_true]; done) | (simp only [lieC, liP, h_1, h_2, h_3, hwc, h_4, h_5, h_6, ↓reduceIte, Bool.false_eq_true]; rfl) | (unfold lieC; (repeat' split) <;> first | rfl | contradiction | (simp_all; done))))) (by rfl)
                ·
                  refine ab_iload hX dX11_lie_139 mm5 ?_
                  refine ab_goto (tgt := 146) hX dX11_lie_141 (by decide) ?_
                  exact ab_ireturn hX hF dX11_lie_146 rfl (by rfl) (congrArg some (congrArg Value.int (by first | rfl | (simp only [lieC, liP, h_1, h_2, h_3, hwc, h_4, h_5, h_6, ↓reduceIte, Bool.false_eq_true]; done) | (simp only [lieC, liP, h_1, h_2, h_3, hwc, h_4, h_5, h_6, ↓reduceIte, Bool.false_eq_true]; rfl) | (unfold lieC; (repeat' split) <;> first | rfl | contradiction | (simp_all; done))))) (by rfl)
              ·
                refine ab_iload hX dX11_lie_131 mm4 ?_
                exact ab_ireturn hX hF dX11_lie_133 rfl (by rfl) (congrArg some (congrArg Value.int (by first | rfl | (simp only [lieC, liP, h_1, h_2, h_3, hwc, h_4, h_5, ↓reduceIte, Bool.false_eq_true]; done) | (simp only [lieC, liP, h_1, h_2, h_3, hwc, h_4, h_5, ↓reduceIte, Bool.false_eq_true]; rfl) | (unfold lieC; (repeat' split) <;> first | rfl | contradiction | (simp_all; done))))) (by rfl)
            ·
              have hlt_ := ctL (N := 288) h_4 (by rfl) (by omega) (by omega)
              refine ab_aload_n hX dX11_lie_52 mm0 ?_
              refine ab_iload hX dX11_lie_53 mm7 ?_
              refine ab_iload_n hX dX11_lie_55 mm1 ?_
              refine ab_callV2r hX dX11_lie_56 cg_x ss_X11_lie_254 (cm_X11_isLie hG hM (by omega)) (Nat.le_of_ble_eq_true rfl) ?_
              refine ab_ifneB (tgt := 65) hX dX11_lie_59 (by decide) (fun h_7 => ?_) (fun h_7 => ?_)
              ·
                refine ab_iinc hX dX11_lie_65 mm4 rfl (by decide) rfl ?_
                refine ab_lload_n hX dX11_lie_68 mm4 ?_
                refine ab_aload_n hX dX11_lie_69 mm1 ?_
                refine ab_iload hX dX11_lie_70 mm7 ?_
                refine ab_callV1r hX dX11_lie_72 cg_x ss_X11_lie_258 (cm_X11_worldsOfCode hG hM (by omega)) (Nat.le_of_ble_eq_true rfl) ?_
                refine ab_ldc2 hX dX11_lie_75 tw_620 ?_
                refine ab_lxor hX dX11_lie_78 ?_
                refine ab_land hX dX11_lie_79 ?_
                refine ab_callS1r hX dX11_lie_80 ss_X11_lie_192 (cm_J13_bitCount_95d88 hG) (Nat.le_of_ble_eq_true rfl) ?_
                refine ab_istore hX dX11_lie_83 (by decide) rfl ?_
                refine ab_iload hX dX11_lie_85 mm0 ?_
                refine ab_iload hX dX11_lie_87 mm7 ?_
                refine ab_icmple (tgt := 121) hX dX11_lie_89 (by decide) (fun h_8 => ?_) (fun h_8 => ?_)
                ·
                  refine ab_iinc hX dX11_lie_121 mm8 rfl (by decide) rfl ?_
                  refine ab_goto (tgt := 44) hX dX11_lie_124 (by decide) ?_
                  exact ab_pm8 mm3 (mmv4 (congrArg Value.int (by rfl))) (mmv5 (congrArg Value.int (by rfl))) (mmv6 (congrArg Value.long (by rfl))) (mmv2 (congrArg Value.int (by rw [acc_s]; try (first | rfl | (simp only [liG, h_1, h_2, h_3, hwc, h_4, h_7, h_8, ↓reduceIte, Bool.false_eq_true]; done) | (simp only [liG, h_1, h_2, h_3, hwc, h_4, h_7, h_8, ↓reduceIte, Bool.false_eq_true]; rfl) | (unfold liG; (repeat' split) <;> first | rfl | contradiction))))) (mmv7 (congrArg Value.int (by rw [acc_s]; try (first | rfl | (simp only [liG, h_1, h_2, h_3, hwc, h_4, h_7, h_8, ↓reduceIte, Bool.false_eq_true]; done) | (simp only [liG, h_1, h_2, h_3, hwc, h_4, h_7, h_8, ↓reduceIte, Bool.false_eq_true]; rfl) | (unfold liG; (repeat' split) <;> first | rfl | contradiction))))) (mmv8 (congrArg Value.int (by rw [acc_s]; try (first | rfl | (simp only [liG, h_1, h_2, h_3, hwc, h_4, h_7, h_8, ↓reduceIte, Bool.false_eq_true]; done) | (simp only [liG, h_1, h_2, h_3, hwc, h_4, h_7, h_8, ↓reduceIte, Bool.false_eq_true]; rfl) | (unfold liG; (repeat' split) <;> first | rfl | contradiction))))) (mmv0 (congrArg Value.int (by exact (nI_1 _).symm))) (ih44 (_) (by omega) (i + 1) (by omega) rfl)
                ·
                  refine ab_bipush (v := 100) hX dX11_lie_92 (by decide) ?_
                  refine ab_iload hX dX11_lie_94 mm8 ?_
                  refine ab_callS1r hX dX11_lie_96 ss_X11_lie_261 (cm_X11_kindOfCode hG) (Nat.le_of_ble_eq_true rfl) ?_
                  refine ab_imul hX dX11_lie_99 ?_
                  refine ab_bipush (v := 10) hX dX11_lie_100 (by decide) ?_
                  refine ab_iload hX dX11_lie_102 mm8 ?_
                  refine ab_callS1r hX dX11_lie_104 ss_X11_lie_264 (cm_X11_firstOfCode hG) (Nat.le_of_ble_eq_true rfl) ?_
                  refine ab_imul hX dX11_lie_107 ?_
                  refine ab_iadd hX dX11_lie_108 ?_
                  refine ab_iload hX dX11_lie_109 mm8 ?_
                  refine ab_callS1r hX dX11_lie_111 ss_X11_lie_267 (cm_X11_secondOfCode hG) (Nat.le_of_ble_eq_true rfl) ?_
                  refine ab_iadd hX dX11_lie_114 ?_
                  refine ab_istore hX dX11_lie_115 (by decide) rfl ?_
                  refine ab_iload hX dX11_lie_117 mm1 ?_
                  refine ab_istore hX dX11_lie_119 (by decide) rfl ?_
                  refine ab_iinc hX dX11_lie_121 mm8 rfl (by decide) rfl ?_
                  refine ab_goto (tgt := 44) hX dX11_lie_124 (by decide) ?_
                  exact ab_pm8 mm5 (mmv6 (congrArg Value.int (by rfl))) (mmv7 (congrArg Value.int (by rfl))) (mmv8 (congrArg Value.long (by rfl))) (mmv4 (congrArg Value.int (by rw [acc_s]; try (first | rfl | (simp only [liG, h_1, h_2, h_3, hwc, h_4, h_7, h_8, ↓reduceIte, Bool.false_eq_true]; done) | (simp only [liG, h_1, h_2, h_3, hwc, h_4, h_7, h_8, ↓reduceIte, Bool.false_eq_true]; rfl) | (unfold liG; (repeat' split) <;> first | rfl | contradiction))))) (mmv2 (congrArg Value.int (by rw [acc_s]; try (first | rfl | (simp only [liG, h_1, h_2, h_3, hwc, h_4, h_7, h_8, ↓reduceIte, Bool.false_eq_true]; done) | (simp only [liG, h_1, h_2, h_3, hwc, h_4, h_7, h_8, ↓reduceIte, Bool.false_eq_true]; rfl) | (unfold liG; (repeat' split) <;> first | rfl | contradiction))))) (mmv1 (congrArg Value.int (by rw [acc_s]; try (first | rfl | (simp only [liG, h_1, h_2, h_3, hwc, h_4, h_7, h_8, ↓reduceIte, Bool.false_eq_true]; done) | (simp only [liG, h_1, h_2, h_3, hwc, h_4, h_7, h_8, ↓reduceIte, Bool.false_eq_true]; rfl) | (unfold liG; (repeat' split) <;> first | rfl | contradiction))))) (mmv0 (congrArg Value.int (by exact (nI_1 _).symm))) (ih44 (_) (by omega) (i + 1) (by omega) rfl)
              ·
                refine ab_goto (tgt := 121) hX dX11_lie_62 (by decide) ?_
                refine ab_iinc hX dX11_lie_121 mm7 rfl (by decide) rfl ?_
                refine ab_goto (tgt := 44) hX dX11_lie_124 (by decide) ?_
                exact ab_pm8 mm1 (mmv2 (congrArg Value.int (by rfl))) (mmv3 (congrArg Value.int (by rfl))) (mmv4 (congrArg Value.long (by rfl))) (mmv5 (congrArg Value.int (by rw [acc_s]; try (first | rfl | (simp only [liG, h_1, h_2, h_3, hwc, h_4, h_7, ↓reduceIte, Bool.false_eq_true]; done) | (simp only [liG, h_1, h_2, h_3, hwc, h_4, h_7, ↓reduceIte, Bool.false_eq_true]; rfl) | (unfold liG; (repeat' split) <;> first | rfl | contradiction))))) (mmv6 (congrArg Value.int (by rw [acc_s]; try (first | rfl | (simp only [liG, h_1, h_2, h_3, hwc, h_4, h_7, ↓reduceIte, Bool.false_eq_true]; done) | (simp only [liG, h_1, h_2, h_3, hwc, h_4, h_7, ↓reduceIte, Bool.false_eq_true]; rfl) | (unfold liG; (repeat' split) <;> first | rfl | contradiction))))) (mmv7 (congrArg Value.int (by rw [acc_s]; try (first | rfl | (simp only [liG, h_1, h_2, h_3, hwc, h_4, h_7, ↓reduceIte, Bool.false_eq_true]; done) | (simp only [liG, h_1, h_2, h_3, hwc, h_4, h_7, ↓reduceIte, Bool.false_eq_true]; rfl) | (unfold liG; (repeat' split) <;> first | rfl | contradiction))))) (mmv0 (congrArg Value.int (by exact (nI_1 _).symm))) (ih44 (_) (by omega) (i + 1) (by omega) rfl)
        exact ab_pm8 mm5 (mmv6 (congrArg Value.int (by rfl))) (mmv7 (congrArg Value.int (by rfl))) (mmv4 (congrArg Value.long (by rfl))) (mmv3 (congrArg Value.int (by rfl))) (mmv2 (congrArg Value.int (by rfl))) (mmv1 (congrArg Value.int (by rfl))) (mmv0 (congrArg Value.int (by rfl))) (L44 _ 0 (by omega) rfl)
      ·
        have hwc := iwF2 (lo := 0) h_3
        refine ab_iconst (v := (-1)) hX dX11_lie_20 (by decide) ?_
        exact ab_ireturn hX hF dX11_lie_21 rfl (by rfl) (congrArg some (congrArg Value.int (by first | rfl | (simp only [lieC, liP, h_1, h_2, h_3, hwc, ↓reduceIte, Bool.false_eq_true]; done) | (simp only [lieC, liP, h_1, h_2, h_3, hwc, ↓reduceIte, Bool.false_eq_true]; rfl) | (unfold lieC; (repeat' split) <;> first | rfl | contradiction | (simp_all; done))))) (by rfl)
theorem cm_X11_worldsOfDraws {G : ab_G} (hG : ab_GG G) {c : CS} {M D : List ab_E} (hM : M.length = 1) {z : Int32} : ab_CM G mX11_worldsOfDraws [.ref 0, .int z] (cH c M D) (some (.long (wdC z))) (cH c M D) := by
  refine ab_meth (l0 := [(0, .ref 0), (1, .int z)]) hG (by decide +kernel) rfl (Nat.le_of_ble_eq_true rfl) (Nat.le_refl _) (Nat.le_refl _) (fun X hX hF => ?_)
  refine ab_iload_n hX dX11_worldsOfDraws_0 mm1 ?_
  refine ab_callS1r hX dX11_worldsOfDraws_1 ss_X11_worldsOfDraws_441 (cm_X11_nextSeed hG) (Nat.le_of_ble_eq_true rfl) ?_
  refine ab_istore_n hX dX11_worldsOfDraws_4 rfl (by decide) rfl ?_
  refine ab_iload_n hX dX11_worldsOfDraws_5 mm0 ?_
  refine ab_callS1r hX dX11_worldsOfDraws_6 ss_X11_worldsOfDraws_441 (cm_X11_nextSeed hG) (Nat.le_of_ble_eq_true rfl) ?_
  refine ab_istore_n hX dX11_worldsOfDraws_9 rfl (by decide) rfl ?_
  refine ab_iload_n hX dX11_worldsOfDraws_10 mm0 ?_
  refine ab_callS1r hX dX11_worldsOfDraws_11 ss_X11_worldsOfDraws_441 (cm_X11_nextSeed hG) (Nat.le_of_ble_eq_true rfl) ?_
  refine ab_istore hX dX11_worldsOfDraws_14 (by decide) rfl ?_
  refine ab_iload hX dX11_worldsOfDraws_16 mm0 ?_
  refine ab_callS1r hX dX11_worldsOfDraws_18 ss_X11_worldsOfDraws_441 (cm_X11_nextSeed hG) (Nat.le_of_ble_eq_true rfl) ?_
  refine ab_istore hX dX11_worldsOfDraws_21 (by decide) rfl ?_
  refine ab_aload_n hX dX11_worldsOfDraws_23 mm4 ?_
  refine ab_aload_n hX dX11_worldsOfDraws_24 mm4 ?_
  refine ab_getfield hX dX11_worldsOfDraws_25 (fs_X11_12_12 rfl) cg_x rfl ?_
  refine ab_callV0r hX dX11_worldsOfDraws_28 cg_ks ss_X11_worldsOfDraws_163 (cm_Jx4a65c_size_8abf5 hG cg_ks) (Nat.le_of_ble_eq_true rfl) ?_
  refine ab_iload_n hX dX11_worldsOfDraws_31 mm3 ?_
  refine ab_callS2r hX dX11_worldsOfDraws_32 ss_X11_worldsOfDraws_444 (cm_X11_drawnBelow hG) (Nat.le_of_ble_eq_true rfl) ?_
  obtain ⟨k, hk, hkd⟩ := dr_in (m := 8) (by decide) (by decide) (nxS z)
  rw [show drB 8 (nxS z) = nI k from hkd]
  have hkt : tn (drB 8 (nxS z)) = k := by rw [show drB 8 (nxS z) = nI k from hkd]; exact tn_nI (by omega)
  refine ab_callV1r hX dX11_worldsOfDraws_35 cg_x ss_X11_worldsOfDraws_337 (kn_ok hG hM hk) (Nat.le_of_ble_eq_true rfl) ?_
  refine ab_astore hX dX11_worldsOfDraws_38 (by decide) rfl ?_
  refine ab_aload hX dX11_worldsOfDraws_40 mm0 ?_
  refine ab_ifnonnull (tgt := 47) hX dX11_worldsOfDraws_42 (by decide) ?_
  refine ab_aload hX dX11_worldsOfDraws_47 mm0 ?_
  refine ab_bipush (v := 10) hX dX11_worldsOfDraws_49 (by decide) ?_
  refine ab_iload_n hX dX11_worldsOfDraws_51 mm3 ?_
  refine ab_callS2r hX dX11_worldsOfDraws_52 ss_X11_worldsOfDraws_444 (cm_X11_drawnBelow hG) (Nat.le_of_ble_eq_true rfl) ?_
  refine ab_bipush (v := 6) hX dX11_worldsOfDraws_55 (by decide) ?_
  refine ab_iload hX dX11_worldsOfDraws_57 mm2 ?_
  refine ab_callS2r hX dX11_worldsOfDraws_59 ss_X11_worldsOfDraws_444 (cm_X11_drawnBelow hG) (Nat.le_of_ble_eq_true rfl) ?_
  refine ab_bipush (v := 6) hX dX11_worldsOfDraws_62 (by decide) ?_
  refine ab_iload hX dX11_worldsOfDraws_64 mm1 ?_
  refine ab_callS2r hX dX11_worldsOfDraws_66 ss_X11_worldsOfDraws_444 (cm_X11_drawnBelow hG) (Nat.le_of_ble_eq_true rfl) ?_
  obtain ⟨Z_, ci_, fs_, hg_, hs_, hc_⟩ := vz_X11_worldsOfDraws_393 hG (c := c) (M := M) (D := D) hM hk
  refine ab_callV3r hX dX11_worldsOfDraws_69 hg_ hs_ (hc_ _ _ _) (Nat.le_of_ble_eq_true rfl) ?_
  exact ab_lreturn hX hF dX11_worldsOfDraws_72 rfl (congrArg some (congrArg Value.long (by rw [wdC, hkt]))) (by rfl)
theorem cm_X11_seeds {G : ab_G} (hG : ab_GG G) {c : CS} {M D : List ab_E} (hM : M.length = 1) {n : Int32} {z : Int32} {what : Int32} {nl : Nat} {ql : Nat → SY} (hL0 : cL c D (2 * 0) nl ql) {nw : Nat} (hw : c.1 (10 + 0) = nI nw) (hw5 : nw ≤ 5)  : ab_CM G mX11_seeds [.ref 0, .int n, .int z, .int what] (cH c M D) (some (.int (sedC (c.1 (20 + 0)) (mbT ql nl) nw n z what))) (cH c M D) := by
  refine ab_meth (l0 := [(0, .ref 0), (1, .int n), (2, .int z), (3, .int what)]) hG (by decide +kernel) rfl (Nat.le_of_ble_eq_true rfl) (Nat.le_refl _) (Nat.le_refl _) (fun X hX hF => ?_)
  have h10 := hL0.2.1
  refine ab_iload_n hX dX11_seeds_0 mm1 ?_
  refine ab_iconst (v := 1) hX dX11_seeds_1 (by decide) ?_
  refine ab_icmplt (tgt := 18) hX dX11_seeds_2 (by decide) (fun h_1 => ?_) (fun h_1 => ?_)
  ·
    have hwc := iwF1 (hi := 20) h_1
    refine ab_iconst (v := (-1)) hX dX11_seeds_18 (by decide) ?_
    exact ab_ireturn hX hF dX11_seeds_19 rfl (by rfl) (congrArg some (congrArg Value.int (by first | rfl | (simp only [sedC, h_1, hwc, ↓reduceIte, Bool.false_eq_true]; done) | (simp only [sedC, h_1, hwc, ↓reduceIte, Bool.false_eq_true]; rfl) | (unfold sedC; (repeat' split) <;> first | rfl | contradiction | (simp_all; done))))) (by rfl)
  ·
    refine ab_iload_n hX dX11_seeds_5 mm1 ?_
    refine ab_bipush (v := 20) hX dX11_seeds_6 (by decide) ?_
    refine ab_icmpgt (tgt := 18) hX dX11_seeds_8 (by decide) (fun h_2 => ?_) (fun h_2 => ?_)
    ·
      have hwc := iwF3 (lo := 1) h_2
      refine ab_iconst (v := (-1)) hX dX11_seeds_18 (by decide) ?_
      exact ab_ireturn hX hF dX11_seeds_19 rfl (by rfl) (congrArg some (congrArg Value.int (by first | rfl | (simp only [sedC, h_1, h_2, hwc, ↓reduceIte, Bool.false_eq_true]; done) | (simp only [sedC, h_1, h_2, hwc, ↓reduceIte, Bool.false_eq_true]; rfl) | (unfold sedC; (repeat' split) <;> first | rfl | contradiction | (simp_all; done))))) (by rfl)
    ·
      have hwc := iwT2 ‹¬ n < 1› h_2
      obtain ⟨N, hN, rfl⟩ := iw20 hwc
      have hNc := tn_nI (j := N) (by omega)
      refine ab_iload_n hX dX11_seeds_11 mm3 ?_
      refine ab_callS1r hX dX11_seeds_12 ss_X11_seeds_182 (cm_X11_isEitherOr hG) (Nat.le_of_ble_eq_true rfl) ?_
      refine ab_ifneB (tgt := 20) hX dX11_seeds_15 (by decide) (fun h_3 => ?_) (fun h_3 => ?_)
      ·
        refine ab_aload_n hX dX11_seeds_20 mm0 ?_
        refine ab_getfield hX dX11_seeds_21 (fs_X11_25_12 rfl) cg_x rfl ?_
        refine ab_callV0r hX dX11_seeds_24 (cg_tr (show 0 < 3 by decide)) ss_X11_seeds_216 (cm_X10_mayBe hG hM (show 0 < 3 by decide) hL0) (Nat.le_of_ble_eq_true rfl) ?_
        refine ab_lstore hX dX11_seeds_27 (by decide) rfl ?_
        refine ab_iload_n hX dX11_seeds_29 mm3 ?_
        refine ab_istore hX dX11_seeds_30 (by decide) rfl ?_
        refine ab_iconst (v := 0) hX dX11_seeds_32 (by decide) ?_
        refine ab_istore hX dX11_seeds_33 (by decide) rfl ?_
        refine ab_iconst (v := 0) hX dX11_seeds_35 (by decide) ?_
        refine ab_istore hX dX11_seeds_36 (by decide) rfl ?_
        refine ab_iconst (v := 0) hX dX11_seeds_38 (by decide) ?_
        refine ab_istore hX dX11_seeds_39 (by decide) rfl ?_
        have L41 : ∀ (k41_ : Nat) (i : Nat) (hi_ : i ≤ N), k41_ = N - i → ab_WA G mX11_seeds X 41 [(0, .ref 0), (1, .int (nI N)), (3, .int what), (4, .long (mbT ql nl)), (6, .int (acc (sgO (c.1 (20 + 0)) (mbT ql nl) nw) (z, 0, 0) i).1), (7, .int (acc (sgO (c.1 (20 + 0)) (mbT ql nl) nw) (z, 0, 0) i).2.1), (8, .int (acc (sgO (c.1 (20 + 0)) (mbT ql nl) nw) (z, 0, 0) i).2.2), (9, .int (nI i))] [] (cH c M D) := by
          intro k41_
          induction k41_ using Nat.strongRecOn with
          | _ k41_ ih41 =>
            intro i hi_ hk41_
            refine ab_iload hX dX11_seeds_41 mm7 ?_
            refine ab_iload_n hX dX11_seeds_43 mm1 ?_
            refine ab_icmpge (tgt := 134) hX dX11_seeds_44 (by decide) (fun h_4 => ?_) (fun h_4 => ?_)
            ·
              have hx_ := ctE (N := N) h_4 (by rfl) (by omega) (by omega)
              obtain rfl : N = i := by omega
              refine ab_iload_n hX dX11_seeds_134 mm2 ?_
              refine ab_ifne (tgt := 143) hX dX11_seeds_135 (by decide) (fun h_5 => ?_) (fun h_5 => ?_)
              ·
                refine ab_iload hX dX11_seeds_143 mm6 ?_
                exact ab_ireturn hX hF dX11_seeds_145 rfl (by rfl) (congrArg some (congrArg Value.int (by first | rfl | (simp only [sedC, h_1, h_2, hwc, hNc, h_3, h_4, h_5, ↓reduceIte, Bool.false_eq_true]; done) | (simp only [sedC, h_1, h_2, hwc, hNc, h_3, h_4, h_5, ↓reduceIte, Bool.false_eq_true]; rfl) | (unfold sedC; (repeat' split) <;> first | rfl | contradiction | (simp_all; done))))) (by rfl)
              ·
                refine ab_iload hX dX11_seeds_138 mm5 ?_
                refine ab_goto (tgt := 145) hX dX11_seeds_140 (by decide) ?_
                exact ab_ireturn hX hF dX11_seeds_145 rfl (by rfl) (congrArg some (congrArg Value.int (by first | rfl | (simp only [sedC, h_1, h_2, hwc, hNc, h_3, h_4, h_5, ↓reduceIte, Bool.false_eq_true]; done) | (simp only [sedC, h_1, h_2, hwc, hNc, h_3, h_4, h_5, ↓reduceIte, Bool.false_eq_true]; rfl) | (unfold sedC; (repeat' split) <;> first | rfl | contradiction | (simp_all; done))))) (by rfl)
            ·
              have hlti_ := ctL (N := N) h_4 (by rfl) (by omega) (by omega)
              refine ab_lload hX dX11_seeds_47 mm3 ?_
              refine ab_lstore hX dX11_seeds_49 (by decide) rfl ?_
              refine ab_iconst (v := 0) hX dX11_seeds_51 (by decide) ?_
              refine ab_istore hX dX11_seeds_52 (by decide) rfl ?_
              have L54 : ∀ (k54_ : Nat) (w : Nat) (hw_ : w ≤ nw), k54_ = nw - w → ab_WA G mX11_seeds X 54 [(0, .ref 0), (1, .int (nI N)), (3, .int what), (4, .long (mbT ql nl)), (6, .int (acc (sgG (c.1 (20 + 0))) ((acc (sgO (c.1 (20 + 0)) (mbT ql nl) nw) (z, 0, 0) i).1, (acc (sgO (c.1 (20 + 0)) (mbT ql nl) nw) (z, 0, 0) i).2.1, mbT ql nl) w).1), (7, .int (acc (sgG (c.1 (20 + 0))) ((acc (sgO (c.1 (20 + 0)) (mbT ql nl) nw) (z, 0, 0) i).1, (acc (sgO (c.1 (20 + 0)) (mbT ql nl) nw) (z, 0, 0) i).2.1, mbT ql nl) w).2.1), (8, .int (acc (sgO (c.1 (20 + 0)) (mbT ql nl) nw) (z, 0, 0) i).2.2), (9, .int (nI i)), (10, .long (acc (sgG (c.1 (20 + 0))) ((acc (sgO (c.1 (20 + 0)) (mbT ql nl) nw) (z, 0, 0) i).1, (acc (sgO (c.1 (20 + 0)) (mbT ql nl) nw) (z, 0, 0) i).2.1, mbT ql nl) w).2.2), (12, .int (nI w))] [] (cH c M D) := by
                intro k54_
                induction k54_ using Nat.strongRecOn with
                | _ k54_ ih54 =>
                  intro w hw_ hk54_
                  refine ab_iload hX dX11_seeds_54 mm9 ?_
                  refine ab_aload_n hX dX11_seeds_56 mm0 ?_
                  refine ab_getfield hX dX11_seeds_57 (fs_X11_25_12 rfl) cg_x rfl ?_
                  refine ab_getfield hX dX11_seeds_60 (fs_X11_179_11 rfl) (cg_tr (show 0 < 3 by decide)) rfl ?_
                  refine ab_icmpge (tgt := 118) hX dX11_seeds_63 (by decide) (fun h_6 => ?_) (fun h_6 => ?_)
                  ·
                    have hx_ := ctE (N := nw) h_6 (by exact hw) (by omega) (by omega)
                    obtain rfl : nw = w := by omega
                    refine ab_iload hX dX11_seeds_118 mm6 ?_
                    refine ab_lload hX dX11_seeds_120 mm8 ?_
                    refine ab_callS1r hX dX11_seeds_122 ss_X11_seeds_192 (cm_J13_bitCount_95d88 hG) (Nat.le_of_ble_eq_true rfl) ?_
                    refine ab_iadd hX dX11_seeds_125 ?_
                    refine ab_istore hX dX11_seeds_126 (by decide) rfl ?_
                    refine ab_iinc hX dX11_seeds_128 mm7 rfl (by decide) rfl ?_
                    refine ab_goto (tgt := 41) hX dX11_seeds_131 (by decide) ?_
                    exact ab_pm8 mm2 (mmv3 (congrArg Value.int (by rfl))) (mmv4 (congrArg Value.int (by rfl))) (mmv5 (congrArg Value.long (by rfl))) (mmv6 (congrArg Value.int (by rw [acc_s (sgO _ _ _)]; rfl))) (mmv7 (congrArg Value.int (by rw [acc_s (sgO _ _ _)]; rfl))) (mmv1 (congrArg Value.int (by rw [acc_s (sgO _ _ _)]; rfl))) (mmv0 (congrArg Value.int (by exact (nI_1 _).symm))) (ih41 (_) (by omega) (i + 1) (by omega) rfl)
                  ·
                    have hltw_ := ctL (N := nw) h_6 (by exact hw) (by omega) (by omega)
                    refine ab_aload_n hX dX11_seeds_66 mm0 ?_
                    refine ab_iload hX dX11_seeds_67 mm4 ?_
                    refine ab_callV1r hX dX11_seeds_69 cg_x ss_X11_seeds_317 (cm_X11_worldsOfDraws hG hM) (Nat.le_of_ble_eq_true rfl) ?_
                    refine ab_lstore hX dX11_seeds_72 (by decide) rfl ?_
                    refine ab_iload hX dX11_seeds_74 mm5 ?_
                    refine ab_callS1r hX dX11_seeds_76 ss_X11_seeds_320 (cm_X11_seedAfterDraws hG) (Nat.le_of_ble_eq_true rfl) ?_
                    refine ab_istore hX dX11_seeds_79 (by decide) rfl ?_
                    refine ab_iload hX dX11_seeds_81 mm6 ?_
                    refine ab_lload hX dX11_seeds_83 mm1 ?_
                    refine ab_aload_n hX dX11_seeds_85 mm2 ?_
                    refine ab_getfield hX dX11_seeds_86 (fs_X11_25_12 rfl) cg_x rfl ?_
                    refine ab_getfield hX dX11_seeds_89 (fs_X11_114_11 rfl) (cg_tr (show 0 < 3 by decide)) rfl ?_
                    refine ab_callS2r hX dX11_seeds_92 ss_X11_seeds_117 (cm_X11_hasWorld hG) (Nat.le_of_ble_eq_true rfl) ?_
                    refine ab_callS1r hX dX11_seeds_95 ss_X11_seeds_121 (cm_X11_oneIf hG) (Nat.le_of_ble_eq_true rfl) ?_
                    refine ab_iadd hX dX11_seeds_98 ?_
                    refine ab_istore hX dX11_seeds_99 (by decide) rfl ?_
                    refine ab_lload hX dX11_seeds_101 mm9 ?_
                    refine ab_lload hX dX11_seeds_103 mm2 ?_
                    refine ab_ldc2 hX dX11_seeds_105 tw_620 ?_
                    refine ab_lxor hX dX11_seeds_108 ?_
                    refine ab_land hX dX11_seeds_109 ?_
                    refine ab_lstore hX dX11_seeds_110 (by decide) rfl ?_
                    refine ab_iinc hX dX11_seeds_112 mm10 rfl (by decide) rfl ?_
                    refine ab_goto (tgt := 54) hX dX11_seeds_115 (by decide) ?_
                    exact ab_pm10 mm5 (mmv6 (congrArg Value.int (by rfl))) (mmv7 (congrArg Value.int (by rfl))) (mmv8 (congrArg Value.long (by rfl))) (mmv3 (congrArg Value.int (by rw [acc_s (sgG _)]; rfl))) (mmv2 (congrArg Value.int (by rw [acc_s (sgG _)]; rfl))) (mmv9 (congrArg Value.int (by rfl))) (mmv10 (congrArg Value.int (by rfl))) (mmv1 (congrArg Value.long (by rw [acc_s (sgG _)]; rfl))) (mmv0 (congrArg Value.int (by exact (nI_1 _).symm))) (ih54 (_) (by omega) (w + 1) (by omega) rfl)
              exact ab_pm10 mm2 (mmv3 (congrArg Value.int (by rfl))) (mmv4 (congrArg Value.int (by rfl))) (mmv5 (congrArg Value.long (by rfl))) (mmv6 (congrArg Value.int (by rfl))) (mmv7 (congrArg Value.int (by rfl))) (mmv8 (congrArg Value.int (by rfl))) (mmv9 (congrArg Value.int (by rfl))) (mmv1 (congrArg Value.long (by rfl))) (mmv0 (congrArg Value.int (by rfl))) (L54 _ 0 (by omega) rfl)
        exact ab_pm8 mm5 (mmv6 (congrArg Value.int (by rfl))) (mmv8 (congrArg Value.int (by rfl))) (mmv4 (congrArg Value.long (by rfl))) (mmv3 (congrArg Value.int (by rfl))) (mmv2 (congrArg Value.int (by rfl))) (mmv1 (congrArg Value.int (by rfl))) (mmv0 (congrArg Value.int (by rfl))) (L41 _ 0 (by omega) rfl)
      ·
        refine ab_iconst (v := (-1)) hX dX11_seeds_18 (by decide) ?_
        exact ab_ireturn hX hF dX11_seeds_19 rfl (by rfl) (congrArg some (congrArg Value.int (by first | rfl | (simp only [sedC, h_1, h_2, hwc, hNc, h_3, ↓reduceIte, Bool.false_eq_true]; done) | (simp only [sedC, h_1, h_2, hwc, hNc, h_3, ↓reduceIte, Bool.false_eq_true]; rfl) | (unfold sedC; (repeat' split) <;> first | rfl | contradiction | (simp_all; done))))) (by rfl)
theorem cm_X11_digitAt {G : ab_G} (hG : ab_GG G) {c : CS} {M D : List ab_E} (hM : M.length = 1) {d : Nat} (hd : d < 8) {i : Int32} : ab_CM G mX11_digitAt [.ref (26 + 2 * d), .int i] (cH c M D) (some (.int (nuA c d i - 48))) (cH c M D) := by
  refine ab_meth (l0 := [(0, .ref (26 + 2 * d)), (1, .int i)]) hG (by decide +kernel) rfl (Nat.le_of_ble_eq_true rfl) (Nat.le_refl _) (Nat.le_refl _) (fun X hX hF => ?_)
  refine ab_aload_n hX dX11_digitAt_0 mm0 ?_
  refine ab_iload_n hX dX11_digitAt_1 mm1 ?_
  refine ab_callV1r hX dX11_digitAt_2 (cg_sd hd) ss_X11_digitAt_314 (cm_X9_numberAt hG hM hd) (Nat.le_of_ble_eq_true rfl) ?_
  refine ab_bipush (v := 48) hX dX11_digitAt_5 (by decide) ?_
  refine ab_isub hX dX11_digitAt_7 ?_
  exact ab_ireturn hX hF dX11_digitAt_8 rfl (by rfl) (congrArg some (congrArg Value.int (by rfl))) (by rfl)
theorem cm_X11_twoDigitsAt {G : ab_G} (hG : ab_GG G) {c : CS} {M D : List ab_E} (hM : M.length = 1) {d : Nat} (hd : d < 8) {i : Int32} : ab_CM G mX11_twoDigitsAt [.ref (26 + 2 * d), .int i] (cH c M D) (some (.int (10 * (nuA c d i - 48) + (nuA c d (i + 1) - 48)))) (cH c M D) := by
  refine ab_meth (l0 := [(0, .ref (26 + 2 * d)), (1, .int i)]) hG (by decide +kernel) rfl (Nat.le_of_ble_eq_true rfl) (Nat.le_refl _) (Nat.le_refl _) (fun X hX hF => ?_)
  refine ab_bipush (v := 10) hX dX11_twoDigitsAt_0 (by decide) ?_
  refine ab_aload_n hX dX11_twoDigitsAt_2 mm0 ?_
  refine ab_iload_n hX dX11_twoDigitsAt_3 mm1 ?_
  refine ab_callS2r hX dX11_twoDigitsAt_4 ss_X11_twoDigitsAt_411 (cm_X11_digitAt hG hM hd) (Nat.le_of_ble_eq_true rfl) ?_
  refine ab_imul hX dX11_twoDigitsAt_7 ?_
  refine ab_aload_n hX dX11_twoDigitsAt_8 mm0 ?_
  refine ab_iload_n hX dX11_twoDigitsAt_9 mm1 ?_
  refine ab_iconst (v := 1) hX dX11_twoDigitsAt_10 (by decide) ?_
  refine ab_iadd hX dX11_twoDigitsAt_11 ?_
  refine ab_callS2r hX dX11_twoDigitsAt_12 ss_X11_twoDigitsAt_411 (cm_X11_digitAt hG hM hd) (Nat.le_of_ble_eq_true rfl) ?_
  refine ab_iadd hX dX11_twoDigitsAt_15 ?_
  exact ab_ireturn hX hF dX11_twoDigitsAt_16 rfl (by rfl) (congrArg some (congrArg Value.int (by rfl))) (by rfl)
theorem cm_X11_brokenPlace {G : ab_G} (hG : ab_GG G) {c : CS} {M D : List ab_E} (hM : M.length = 1) {d : Nat} (hd : d < 8) {n : Nat} (hn : c.1 (80 + d) = nI n) (hn2 : n ≤ 100) : ab_CM G mX11_brokenPlace [.ref (26 + 2 * d)] (cH c M D) (some (.int (bpN c d 101 0))) (cH c M D) := by
  refine ab_meth (l0 := [(0, .ref (26 + 2 * d))]) hG (by decide +kernel) rfl (Nat.le_of_ble_eq_true rfl) (Nat.le_refl _) (Nat.le_refl _) (fun X hX hF => ?_)
  refine ab_iconst (v := 0) hX dX11_brokenPlace_0 (by decide) ?_
  refine ab_istore_n hX dX11_brokenPlace_1 rfl (by decide) rfl ?_
  have L2 : ∀ (k2_ : Nat) (k p : Nat) (hp : p ≤ 100) (hk : 101 ≤ p + k) (hr : bpN c d k p = bpN c d 101 0), k2_ = k → ab_WA G mX11_brokenPlace X 2 [(0, .ref (26 + 2 * d)), (1, .int (nI p))] [] (cH c M D) := by
    intro k2_
    induction k2_ using Nat.strongRecOn with
    | _ k2_ ih2 =>
      intro k p hp hk hr hk2_
      obtain ⟨k, rfl⟩ : ∃ q, k = q + 1 := ⟨k - 1, by omega⟩
      rw [bpN_s] at hr
      refine ab_aload_n hX dX11_brokenPlace_2 mm0 ?_
      refine ab_iload_n hX dX11_brokenPlace_3 mm1 ?_
      refine ab_callV1r hX dX11_brokenPlace_4 (cg_sd hd) ss_X11_brokenPlace_314 (cm_X9_numberAt hG hM hd) (Nat.le_of_ble_eq_true rfl) ?_
      refine ab_callS1r hX dX11_brokenPlace_7 ss_X11_brokenPlace_405 (cm_X11_digitsBehind hG) (Nat.le_of_ble_eq_true rfl) ?_
      refine ab_istore_n hX dX11_brokenPlace_10 rfl (by decide) rfl ?_
      refine ab_iload_n hX dX11_brokenPlace_11 mm0 ?_
      refine ab_ifge (tgt := 17) hX dX11_brokenPlace_12 (by decide) (fun h_1 => ?_) (fun h_1 => ?_)
      ·
        obtain ⟨m, hm5, hm, hmt⟩ := dg_ok h_1
        rw [if_pos h_1, hmt] at hr
        refine ab_iconst (v := 1) hX dX11_brokenPlace_17 (by decide) ?_
        refine ab_istore_n hX dX11_brokenPlace_18 rfl (by decide) rfl ?_
        have L19 : ∀ (k19_ : Nat) (j : Nat) (hj : 1 ≤ j ∧ j ≤ m + 1) (hq : biN c d p (m + 1 - j) j = biN c d p m 1), k19_ = m + 1 - j → ab_WA G mX11_brokenPlace X 19 [(0, .ref (26 + 2 * d)), (1, .int (nI p)), (2, .int (dgC (nuA c d (nI p)))), (3, .int (nI j))] [] (cH c M D) := by
          intro k19_
          induction k19_ using Nat.strongRecOn with
          | _ k19_ ih19 =>
            intro j hj hq hk19_
            refine ab_iload_n hX dX11_brokenPlace_19 mm3 ?_
            refine ab_iload_n hX dX11_brokenPlace_20 mm2 ?_
            refine ab_icmpgt (tgt := 47) hX dX11_brokenPlace_21 (by decide) (fun h_2 => ?_) (fun h_2 => ?_)
            ·
              have hx_ : m < j := by rw [hm] at h_2; exact (nI_ltI (by omega) (by omega)).mp h_2
              obtain rfl : j = m + 1 := by omega
              rw [Nat.sub_self] at hq
              rw [← hq] at hr
              simp only [biN] at hr
              rw [hm]
              refine ab_iload_n hX dX11_brokenPlace_47 mm1 ?_
              refine ab_iload_n hX dX11_brokenPlace_48 mm2 ?_
              refine ab_iconst (v := 1) hX dX11_brokenPlace_49 (by decide) ?_
              refine ab_iadd hX dX11_brokenPlace_50 ?_
              refine ab_iadd hX dX11_brokenPlace_51 ?_
              refine ab_istore_n hX dX11_brokenPlace_52 rfl (by decide) rfl ?_
              refine ab_aload_n hX dX11_brokenPlace_53 mm1 ?_
              refine ab_iload_n hX dX11_brokenPlace_54 mm0 ?_
              refine ab_callV1r hX dX11_brokenPlace_55 (cg_sd hd) ss_X11_brokenPlace_314 (cm_X9_numberAt hG hM hd) (Nat.le_of_ble_eq_true rfl) ?_
              refine ab_bipush (v := 59) hX dX11_brokenPlace_58 (by decide) ?_
              refine ab_icmpeq (tgt := 65) hX dX11_brokenPlace_60 (by decide) (fun h_3 => ?_) (fun h_3 => ?_)
              ·
                have e1 : nI p + (nI m + 1) + Int32.ofInt 1 = nI (p + (m + 1) + 1) := by rw [nI_1 m, nI_add]; exact nI_1 _
                rw [nI_1, nI_add] at h_3
                rw [if_pos h_3] at hr
                refine ab_iinc hX dX11_brokenPlace_65 mm0 rfl (by decide) rfl ?_
                refine ab_iload_n hX dX11_brokenPlace_68 mm0 ?_
                refine ab_aload_n hX dX11_brokenPlace_69 mm1 ?_
                refine ab_getfield hX dX11_brokenPlace_70 (fs_X11_304_10 rfl) (cg_sd hd) rfl ?_
                refine ab_icmplt (tgt := 2) hX dX11_brokenPlace_73 (by decide) (fun h_4 => ?_) (fun h_4 => ?_)
                ·
                  rw [e1] at h_4
                  rw [if_pos h_4] at hr
                  exact ab_pm2 mm1 (mmv0 (congrArg Value.int (by first | exact e1 | exact e1.symm | rfl))) (ih2 (_) (by omega) k (p + (m + 1) + 1) (by have q_ := (nI_ltI (a := p + (m + 1) + 1) (b := n) (by omega) (by omega)).mp (by rw [← hn]; assumption); omega) (by omega) hr rfl)
                ·
                  rw [e1] at h_4
                  rw [if_neg h_4] at hr
                  refine ab_iconst (v := (-1)) hX dX11_brokenPlace_76 (by decide) ?_
                  exact ab_ireturn hX hF dX11_brokenPlace_77 rfl (by rfl) (congrArg some (congrArg Value.int (by first | exact hr | (rw [← hr]; done) | (rw [← hr]; rfl) | (rw [← hr, nI_add]) | (rw [← hr, nI_1, nI_add])))) (by rfl)
              ·
                rw [nI_1, nI_add] at h_3
                rw [if_neg h_3] at hr
                refine ab_iload_n hX dX11_brokenPlace_63 mm0 ?_
                exact ab_ireturn hX hF dX11_brokenPlace_64 rfl (by rfl) (congrArg some (congrArg Value.int (by first | exact hr | (rw [← hr]; done) | (rw [← hr]; rfl) | (rw [← hr, nI_add]) | (rw [← hr, nI_1, nI_add])))) (by rfl)
            ·
              have hlt_ : ¬ m < j := fun q => h_2 (by rw [hm]; exact (nI_ltI (by omega) (by omega)).mpr q)
              have en_ : m + 1 - j = (m + 1 - (j + 1)) + 1 := by omega
              rw [en_, biN_s] at hq
              refine ab_aload_n hX dX11_brokenPlace_24 mm0 ?_
              refine ab_iload_n hX dX11_brokenPlace_25 mm1 ?_
              refine ab_iload_n hX dX11_brokenPlace_26 mm3 ?_
              refine ab_iadd hX dX11_brokenPlace_27 ?_
              refine ab_callV1r hX dX11_brokenPlace_28 (cg_sd hd) ss_X11_brokenPlace_314 (cm_X9_numberAt hG hM hd) (Nat.le_of_ble_eq_true rfl) ?_
              refine ab_callS1r hX dX11_brokenPlace_31 ss_X11_brokenPlace_408 (cm_X11_isDigit hG) (Nat.le_of_ble_eq_true rfl) ?_
              refine ab_ifneB (tgt := 41) hX dX11_brokenPlace_34 (by decide) (fun h_5 => ?_) (fun h_5 => ?_)
              ·
                rw [nI_add] at h_5
                rw [if_pos h_5] at hq
                refine ab_iinc hX dX11_brokenPlace_41 mm3 rfl (by decide) rfl ?_
                refine ab_goto (tgt := 19) hX dX11_brokenPlace_44 (by decide) ?_
                exact ab_pm4 mm1 (mmv2 (congrArg Value.int (by first | rfl | exact (nI_1 _).symm))) (mmv3 (congrArg Value.int (by first | rfl | exact (nI_1 _).symm))) (mmv0 (congrArg Value.int (by first | rfl | exact (nI_1 _).symm))) (ih19 (_) (by omega) (j + 1) (by omega) hq rfl)
              ·
                rw [nI_add] at h_5
                rw [if_neg (by rw [h_5]; exact Bool.false_ne_true)] at hq
                rw [← hq] at hr
                refine ab_iload_n hX dX11_brokenPlace_37 mm1 ?_
                refine ab_iload_n hX dX11_brokenPlace_38 mm3 ?_
                refine ab_iadd hX dX11_brokenPlace_39 ?_
                exact ab_ireturn hX hF dX11_brokenPlace_40 rfl (by rfl) (congrArg some (congrArg Value.int (by first | exact hr | (rw [← hr]; done) | (rw [← hr]; rfl) | (rw [← hr, nI_add]) | (rw [← hr, nI_1, nI_add])))) (by rfl)
        exact ab_pm4 mm2 (mmv3 (congrArg Value.int (by rfl))) (mmv1 (congrArg Value.int (by rfl))) (mmv0 (congrArg Value.int (by rfl))) (L19 _ 1 (by omega) rfl rfl)
      ·
        rw [if_neg h_1] at hr
        refine ab_iload_n hX dX11_brokenPlace_15 mm2 ?_
        exact ab_ireturn hX hF dX11_brokenPlace_16 rfl (by rfl) (congrArg some (congrArg Value.int (by first | exact hr | (rw [← hr]; done) | (rw [← hr]; rfl) | (rw [← hr, nI_add]) | (rw [← hr, nI_1, nI_add])))) (by rfl)
  exact ab_pm2 mm1 (mmv0 (congrArg Value.int (by rfl))) (L2 _ 101 0 (by omega) (by omega) rfl rfl)
