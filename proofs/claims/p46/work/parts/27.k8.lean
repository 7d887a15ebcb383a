theorem iw9 {f : Int32} (h1 : ¬ f < 0) (h2 : f < 10) : iw f 0 9 = true := by
  refine iwT h1 ?_
  rw [Int32.lt_iff_toInt_lt] at h2
  rw [Int32.le_iff_toInt_le]
  have e1 : (10 : Int32).toInt = 10 := by decide
  have e2 : (9 : Int32).toInt = 9 := by decide
  omega
theorem iw9n {f : Int32} (h2 : ¬ f < 10) : iw f 0 9 = false := by
  refine iwF3 ?_
  rw [Int32.lt_iff_toInt_lt] at h2 ⊢
  have e1 : (10 : Int32).toInt = 10 := by decide
  have e2 : (9 : Int32).toInt = 9 := by decide
  omega
def kepR (d what k f : Int32) : Int32 := if iw d 0 7 = true then (if eoB what = true then (if what = 0 then 0 else if iw k 0 7 = true then (if iw f 0 9 = true then 0 else -1) else -1) else -1) else -1
def kepP (c : CS) (d what k f : Int32) : CS := if iw d 0 7 = true then (if eoB what = true then (if what = 0 then cu1 c (50 + tn d) 0 else if iw k 0 7 = true then (if iw f 0 9 = true then hsP c (tn d) (tn k) f else c) else c) else c) else c
def rowP (c : CS) (d sort n : Int32) : CS := if iw d 0 7 = true then (if iw sort 0 2 = true then (if n ≤ 100 then (if 0 ≤ n then hrP c (tn d) sort n else c) else c) else c) else c
def putR (c : CS) (d i : Int32) : Int32 := if iw d 0 7 = true then (if rfU c (tn d) 2 = 0 then (if hpB c (tn d) i 1 = true then 0 else -13) else rfU c (tn d) 2) else -1
def putP (c : CS) (d i v : Int32) : CS := if iw d 0 7 = true then (if rfU c (tn d) 2 = 0 then snP c (tn d) i v else c) else c
theorem hp_cp {c : CS} {d : Nat} {i n : Int32} (h : hpB c d i n = true) : ∃ a b : Nat, i = nI a ∧ n = nI b ∧ a + b ≤ 100 ∧ tn i = a ∧ tn n = b := by
  simp only [hpB, Bool.and_eq_true, Bool.not_eq_true', decide_eq_false_iff_not] at h
  obtain ⟨h1, h2, h3, h4, h5⟩ := h
  obtain ⟨a, ha, rfl⟩ := nI_of h1
  obtain ⟨b, hb, rfl⟩ := nI_of h2
  refine ⟨a, b, rfl, rfl, ?_, nI_clamp ha, nI_clamp hb⟩
  have e5 : (c.1 (80 + d)).toInt ≤ 100 := by
    rw [Int32.lt_iff_toInt_lt] at h5
    exact Int.not_lt.mp h5
  rw [Int32.lt_iff_toInt_lt, nI_toInt hb] at h3
  have e6 : (c.1 (80 + d) - nI b).toInt = (c.1 (80 + d)).toInt - b := by
    rw [Int32.toInt_sub, nI_toInt hb]
    exact Int.bmod_eq_of_le (by omega) (by omega)
  rw [Int32.lt_iff_toInt_lt, e6, nI_toInt ha] at h4
  omega
def cpR (c : CS) (d i e j n : Int32) : Int32 := if iw d 0 7 = true then (if iw e 0 7 = true then (if emB c (tn d) = true then -11 else if emB c (tn e) = true then -11 else if rfU c (tn d) 2 = 0 then (if rfU c (tn e) 2 = 0 then (if c.1 (70 + tn d) = c.1 (70 + tn e) then (if hpB c (tn d) i n = true then (if hpB c (tn e) j n = true then n else -13) else -13) else -12) else -12) else -12) else -1) else -1
def cpP (c : CS) (d i e j n : Int32) : CS := if iw d 0 7 = true then (if iw e 0 7 = true then (if emB c (tn d) = true then c else if emB c (tn e) = true then c else if rfU c (tn d) 2 = 0 then (if rfU c (tn e) 2 = 0 then (if c.1 (70 + tn d) = c.1 (70 + tn e) then (if hpB c (tn d) i n = true then (if hpB c (tn e) j n = true then cf2 c (10 + tn e) (va_cpy (c.2.1 (10 + tn d)) (c.2.1 (10 + tn e)) (tn i) (tn j) (tn n)) else c) else c) else c) else c) else c) else c) else c
def rulR (c : CS) (nl : Nat) (d a b : Int32) : Int32 := if iw d 0 7 = true then (if inB a 6 = true then (if inB b 6 = true then (if rfU c (tn d) 1 = 0 then (if nl < 6 then nI nl else -2) else rfU c (tn d) 1) else -1) else -1) else -1
def nsD (c : CS) (t d a b : Int32) : ab_E := nsC t (skc c (tn d)) (c.1 (60 + tn d)) a b
def rulP (c : CS) (D : List ab_E) (nl : Nat) (d a b : Int32) : CD := if iw d 0 7 = true then (if inB a 6 = true then (if inB b 6 = true then (if rfU c (tn d) 1 = 0 then (if nl < 6 then adP (2 * 0) (43 + D.length) (c, D ++ [nsD c (-4) d a b]) else (c, D ++ [nsD c (-4) d a b])) else (c, D)) else (c, D)) else (c, D)) else (c, D)
def sayR (c : CS) (ns : Nat) (w d a b : Int32) : Int32 := if iw d 0 7 = true then (if hwT c 0 w = true then (if inB a 6 = true then (if inB b 6 = true then (if rfU c (tn d) 1 = 0 then (if ns < 10 then nI ns else -2) else rfU c (tn d) 1) else -1) else -1) else -1) else -1
def sayP (c : CS) (D : List ab_E) (ns : Nat) (w d a b : Int32) : CD := if iw d 0 7 = true then (if hwT c 0 w = true then (if inB a 6 = true then (if inB b 6 = true then (if rfU c (tn d) 1 = 0 then (if ns < 10 then adP (2 * 0 + 1) (43 + D.length) (c, D ++ [nsD c w d a b]) else (c, D ++ [nsD c w d a b])) else (c, D)) else (c, D)) else (c, D)) else (c, D)) else (c, D)
def unsR (ns : Nat) : Int32 := if ns = 0 then -3 else nI (ns - 1)
def unsP (c : CS) (D : List ab_E) (ns : Nat) : CD := if ns = 0 then (c, D) else rmP (2 * 0 + 1) (c, D)
def wtnR (c : CS) (w : Int32) : Int32 := if afB w = true then (if awB c 0 w = true then (awP c 0 w).1 (10 + 0) - 1 else -2) else -1
def wtnP (c : CS) (w : Int32) : CS := if afB w = true then awP c 0 w else c
def trtR (c : CS) (w : Int32) : Int32 := if inB w 64 = true then c.1 (20 + 0) else -1
def trtP (c : CS) (w : Int32) : CS := if inB w 64 = true then cu1 c (20 + 0) w else c
theorem ad_sz {c : CS} {D : List ab_E} {l n r : Nat} {q : Nat → SY} (hL : cL c D l n q) : (adP l r (c, D)).1.1 (30 + l) = nI (n + 1) := by
  obtain ⟨h1, h2, h3, h4⟩ := hL
  rcases h3 with ⟨h0, hv⟩ | ⟨e, f, hv, hD, hf⟩
  · rw [adP_0 hv, h0]; exact setL_2
  · rw [adP_1 hv hD h1 h2]; exact setL_2
theorem le_rul {c : CS} {D : List ab_E} {Q : Nat → Nat × (Nat → SY)} (h : GI c D Q) {nl : Nat} {d a b : Int32} : leD D (rulP c D nl d a b).2 := by
  unfold rulP
  repeat' split
  · exact le_tr le_app (le_ad ((GI_app _ h).1 (2 * 0) (by decide)))
  · exact le_app
  all_goals exact le_rf _
theorem le_say {c : CS} {D : List ab_E} {Q : Nat → Nat × (Nat → SY)} (h : GI c D Q) {ns : Nat} {w d a b : Int32} : leD D (sayP c D ns w d a b).2 := by
  unfold sayP
  repeat' split
  · exact le_tr le_app (le_ad ((GI_app _ h).1 (2 * 0 + 1) (by decide)))
  · exact le_app
  all_goals exact le_rf _
theorem le_uns {c : CS} {D : List ab_E} {Q : Nat → Nat × (Nat → SY)} (h : GI c D Q) : leD D (unsP c D (Q (2 * 0 + 1)).1).2 := by
  unfold unsP
  split
  · exact le_rf _
  · rename_i q
    obtain ⟨n, hn⟩ : ∃ n, (Q (2 * 0 + 1)).1 = n + 1 := ⟨(Q (2 * 0 + 1)).1 - 1, by omega⟩
    have z := h.1 (2 * 0 + 1) (by decide)
    rw [hn] at z
    exact le_rm z
theorem cm_X11_keep {G : ab_G} (hG : ab_GG G) {c : CS} {M D : List ab_E} (hM : M.length = 1) {d : Int32} {what : Int32} {k : Int32} {f : Int32}  : ab_CM G mX11_keep [.ref 0, .int d, .int what, .int k, .int f] (cH c M D) (some (.int (kepR d what k f))) (cH (kepP c d what k f) M D) := by
  refine ab_meth (l0 := [(0, .ref 0), (1, .int d), (2, .int what), (3, .int k), (4, .int f)]) hG (by decide +kernel) rfl (Nat.le_of_ble_eq_true rfl) (cH_lenE (Nat.le_refl _)) (cH_szE (Nat.le_refl _)) (fun X hX hF => ?_)
  refine ab_aload_n hX dX11_keep_0 mm0 ?_
  refine ab_iload_n hX dX11_keep_1 mm1 ?_
  rcases sh_cases d with ⟨j, hj, rfl, jinc, jc⟩ | hno
  ·
    refine ab_callV1r hX dX11_keep_2 cg_x ss_X11_keep_75 (sh_ok hG hM hj) (Nat.le_of_ble_eq_true rfl) ?_
    refine ab_astore hX dX11_keep_5 (by decide) rfl ?_
    refine ab_aload hX dX11_keep_7 mm0 ?_
    refine ab_ifnull hX dX11_keep_9 ?_
    refine ab_iload_n hX dX11_keep_12 mm3 ?_
    refine ab_callS1r hX dX11_keep_13 ss_X11_keep_182 (cm_X11_isEitherOr hG) (Nat.le_of_ble_eq_true rfl) ?_
    refine ab_ifneB (tgt := 21) hX dX11_keep_16 (by decide) (fun h_1 => ?_) (fun h_1 => ?_)
    ·
      refine ab_iload_n hX dX11_keep_21 mm3 ?_
      refine ab_ifne (tgt := 32) hX dX11_keep_22 (by decide) (fun h_2 => ?_) (fun h_2 => ?_)
      ·
        refine ab_aload_n hX dX11_keep_32 mm1 ?_
        refine ab_iload_n hX dX11_keep_33 mm4 ?_
        rcases sh_cases k with ⟨kk, hk, rfl, kkinc, kkc⟩ | hkno
        ·
          refine ab_callV1r hX dX11_keep_34 cg_x ss_X11_keep_337 (kn_ok hG hM hk) (Nat.le_of_ble_eq_true rfl) ?_
          refine ab_astore hX dX11_keep_37 (by decide) rfl ?_
          refine ab_aload hX dX11_keep_39 mm0 ?_
          refine ab_ifnull hX dX11_keep_41 ?_
          refine ab_iload hX dX11_keep_44 mm6 ?_
          refine ab_iflt (tgt := 56) hX dX11_keep_46 (by decide) (fun h_3 => ?_) (fun h_3 => ?_)
          ·
            have hfc := iwF1 (hi := 9) h_3
            refine ab_iconst (v := (-1)) hX dX11_keep_56 (by decide) ?_
            exact ab_ireturn hX hF dX11_keep_57 rfl (by rfl) (congrArg some (congrArg Value.int (by first | rfl | (simp only [kepR, kepP, jinc, jc, h_1, h_2, kkinc, kkc, h_3, hfc, ↓reduceIte, Bool.false_eq_true]; done) | (simp only [kepR, kepP, jinc, jc, h_1, h_2, kkinc, kkc, h_3, hfc, ↓reduceIte, Bool.false_eq_true]; rfl) | (unfold kepR; (repeat' split) <;> first | rfl | contradiction | (simp_all; done))))) (by first | rfl | (simp only [kepR, kepP, jinc, jc, h_1, h_2, kkinc, kkc, h_3, hfc, ↓reduceIte, Bool.false_eq_true]; done) | (simp only [kepR, kepP, jinc, jc, h_1, h_2, kkinc, kkc, h_3, hfc, ↓reduceIte, Bool.false_eq_true]; rfl))
          ·
            refine ab_iload hX dX11_keep_49 mm6 ?_
            refine ab_bipush (v := 10) hX dX11_keep_51 (by decide) ?_
            refine ab_icmplt (tgt := 58) hX dX11_keep_53 (by decide) (fun h_4 => ?_) (fun h_4 => ?_)
            ·
              have hfc := iw9 ‹¬ f < 0› h_4
              refine ab_aload hX dX11_keep_58 mm1 ?_
              refine ab_aload hX dX11_keep_60 mm0 ?_
              refine ab_iload hX dX11_keep_62 mm6 ?_
              refine ab_callV2v hX dX11_keep_64 (cg_sd hj) ss_X11_keep_341 (cm_X9_holdSaying hG hM hj hk) (Nat.le_of_ble_eq_true rfl) ?_
              refine ab_iconst (v := 0) hX dX11_keep_67 (by decide) ?_
              exact ab_ireturn hX hF dX11_keep_68 rfl (by rfl) (congrArg some (congrArg Value.int (by first | rfl | (simp only [kepR, kepP, jinc, jc, h_1, h_2, kkinc, kkc, h_3, h_4, hfc, ↓reduceIte, Bool.false_eq_true]; done) | (simp only [kepR, kepP, jinc, jc, h_1, h_2, kkinc, kkc, h_3, h_4, hfc, ↓reduceIte, Bool.false_eq_true]; rfl) | (unfold kepR; (repeat' split) <;> first | rfl | contradiction | (simp_all; done))))) (by first | rfl | (simp only [kepR, kepP, jinc, jc, h_1, h_2, kkinc, kkc, h_3, h_4, hfc, ↓reduceIte, Bool.false_eq_true]; done) | (simp only [kepR, kepP, jinc, jc, h_1, h_2, kkinc, kkc, h_3, h_4, hfc, ↓reduceIte, Bool.false_eq_true]; rfl))
            ·
              have hfc := iw9n h_4
              refine ab_iconst (v := (-1)) hX dX11_keep_56 (by decide) ?_
              exact ab_ireturn hX hF dX11_keep_57 rfl (by rfl) (congrArg some (congrArg Value.int (by first | rfl | (simp only [kepR, kepP, jinc, jc, h_1, h_2, kkinc, kkc, h_3, h_4, hfc, ↓reduceIte, Bool.false_eq_true]; done) | (simp only [kepR, kepP, jinc, jc, h_1, h_2, kkinc, kkc, h_3, h_4, hfc, ↓reduceIte, Bool.false_eq_true]; rfl) | (unfold kepR; (repeat' split) <;> first | rfl | contradiction | (simp_all; done))))) (by first | rfl | (simp only [kepR, kepP, jinc, jc, h_1, h_2, kkinc, kkc, h_3, h_4, hfc, ↓reduceIte, Bool.false_eq_true]; done) | (simp only [kepR, kepP, jinc, jc, h_1, h_2, kkinc, kkc, h_3, h_4, hfc, ↓reduceIte, Bool.false_eq_true]; rfl))
        ·
          refine ab_callV1r hX dX11_keep_34 cg_x ss_X11_keep_337 (kn_no hG hM hkno) (Nat.le_of_ble_eq_true rfl) ?_
          refine ab_astoreN hX dX11_keep_37 (by decide) rfl ?_
          refine ab_aloadN hX dX11_keep_39 mm0 ?_
          refine ab_ifnullN (tgt := 56) hX dX11_keep_41 (by decide) ?_
          refine ab_iconst (v := (-1)) hX dX11_keep_56 (by decide) ?_
          exact ab_ireturn hX hF dX11_keep_57 rfl (by rfl) (congrArg some (congrArg Value.int (by first | rfl | (simp only [kepR, kepP, jinc, jc, h_1, h_2, hkno, ↓reduceIte, Bool.false_eq_true]; done) | (simp only [kepR, kepP, jinc, jc, h_1, h_2, hkno, ↓reduceIte, Bool.false_eq_true]; rfl) | (unfold kepR; (repeat' split) <;> first | rfl | contradiction | (simp_all; done))))) (by first | rfl | (simp only [kepR, kepP, jinc, jc, h_1, h_2, hkno, ↓reduceIte, Bool.false_eq_true]; done) | (simp only [kepR, kepP, jinc, jc, h_1, h_2, hkno, ↓reduceIte, Bool.false_eq_true]; rfl))
      ·
        refine ab_aload hX dX11_keep_25 mm0 ?_
        refine ab_callV0v hX dX11_keep_27 (cg_sd hj) ss_X11_keep_334 (cm_X9_holdNothing hG hM hj) (Nat.le_of_ble_eq_true rfl) ?_
        refine ab_iconst (v := 0) hX dX11_keep_30 (by decide) ?_
        exact ab_ireturn hX hF dX11_keep_31 rfl (by rfl) (congrArg some (congrArg Value.int (by first | rfl | (simp only [kepR, kepP, jinc, jc, h_1, h_2, ↓reduceIte, Bool.false_eq_true]; done) | (simp only [kepR, kepP, jinc, jc, h_1, h_2, ↓reduceIte, Bool.false_eq_true]; rfl) | (unfold kepR; (repeat' split) <;> first | rfl | contradiction | (simp_all; done))))) (by first | rfl | (simp only [kepR, kepP, jinc, jc, h_1, h_2, ↓reduceIte, Bool.false_eq_true]; done) | (simp only [kepR, kepP, jinc, jc, h_1, h_2, ↓reduceIte, Bool.false_eq_true]; rfl))
    ·
      refine ab_iconst (v := (-1)) hX dX11_keep_19 (by decide) ?_
      exact ab_ireturn hX hF dX11_keep_20 rfl (by rfl) (congrArg some (congrArg Value.int (by first | rfl | (simp only [kepR, kepP, jinc, jc, h_1, ↓reduceIte, Bool.false_eq_true]; done) | (simp only [kepR, kepP, jinc, jc, h_1, ↓reduceIte, Bool.false_eq_true]; rfl) | (unfold kepR; (repeat' split) <;> first | rfl | contradiction | (simp_all; done))))) (by first | rfl | (simp only [kepR, kepP, jinc, jc, h_1, ↓reduceIte, Bool.false_eq_true]; done) | (simp only [kepR, kepP, jinc, jc, h_1, ↓reduceIte, Bool.false_eq_true]; rfl))
  ·
    refine ab_callV1r hX dX11_keep_2 cg_x ss_X11_keep_75 (sh_no hG hM hno) (Nat.le_of_ble_eq_true rfl) ?_
    refine ab_astoreN hX dX11_keep_5 (by decide) rfl ?_
    refine ab_aloadN hX dX11_keep_7 mm0 ?_
    refine ab_ifnullN (tgt := 19) hX dX11_keep_9 (by decide) ?_
    refine ab_iconst (v := (-1)) hX dX11_keep_19 (by decide) ?_
    exact ab_ireturn hX hF dX11_keep_20 rfl (by rfl) (congrArg some (congrArg Value.int (by first | rfl | (simp only [kepR, kepP, hno, ↓reduceIte, Bool.false_eq_true]; done) | (simp only [kepR, kepP, hno, ↓reduceIte, Bool.false_eq_true]; rfl) | (unfold kepR; (repeat' split) <;> first | rfl | contradiction | (simp_all; done))))) (by first | rfl | (simp only [kepR, kepP, hno, ↓reduceIte, Bool.false_eq_true]; done) | (simp only [kepR, kepP, hno, ↓reduceIte, Bool.false_eq_true]; rfl))
theorem cm_X11_row {G : ab_G} (hG : ab_GG G) {c : CS} {M D : List ab_E} (hM : M.length = 1) {d : Int32} {sort : Int32} {n : Int32}  : ab_CM G mX11_row [.ref 0, .int d, .int sort, .int n] (cH c M D) (some (.int (roM d sort n))) (cH (rowP c d sort n) M D) := by
  refine ab_meth (l0 := [(0, .ref 0), (1, .int d), (2, .int sort), (3, .int n)]) hG (by decide +kernel) rfl (Nat.le_of_ble_eq_true rfl) (cH_lenE (Nat.le_refl _)) (cH_szE (Nat.le_refl _)) (fun X hX hF => ?_)
  refine ab_aload_n hX dX11_row_0 mm0 ?_
  refine ab_iload_n hX dX11_row_1 mm1 ?_
  rcases sh_cases d with ⟨j, hj, rfl, jinc, jc⟩ | hno
  ·
    refine ab_callV1r hX dX11_row_2 cg_x ss_X11_row_75 (sh_ok hG hM hj) (Nat.le_of_ble_eq_true rfl) ?_
    refine ab_astore hX dX11_row_5 (by decide) rfl ?_
    refine ab_aload hX dX11_row_7 mm0 ?_
    refine ab_ifnull hX dX11_row_9 ?_
    refine ab_iload_n hX dX11_row_12 mm3 ?_
    refine ab_iflt (tgt := 27) hX dX11_row_13 (by decide) (fun h_1 => ?_) (fun h_1 => ?_)
    ·
      have hfc := iwF1 (hi := 2) h_1
      refine ab_iconst (v := (-1)) hX dX11_row_27 (by decide) ?_
      exact ab_ireturn hX hF dX11_row_28 rfl (by rfl) (congrArg some (congrArg Value.int (by first | rfl | (simp only [roM, rowP, jinc, jc, h_1, hfc, ↓reduceIte, Bool.false_eq_true]; done) | (simp only [roM, rowP, jinc, jc, h_1, hfc, ↓reduceIte, Bool.false_eq_true]; rfl) | (unfold roM; (repeat' split) <;> first | rfl | contradiction | (simp_all; done))))) (by first | rfl | (simp only [roM, rowP, jinc, jc, h_1, hfc, ↓reduceIte, Bool.false_eq_true]; done) | (simp only [roM, rowP, jinc, jc, h_1, hfc, ↓reduceIte, Bool.false_eq_true]; rfl))
    ·
      refine ab_iload_n hX dX11_row_16 mm3 ?_
      refine ab_iconst (v := 2) hX dX11_row_17 (by decide) ?_
      refine ab_icmpgt (tgt := 27) hX dX11_row_18 (by decide) (fun h_2 => ?_) (fun h_2 => ?_)
      ·
        have hfc := iwF3 (lo := 0) h_2
        refine ab_iconst (v := (-1)) hX dX11_row_27 (by decide) ?_
        exact ab_ireturn hX hF dX11_row_28 rfl (by rfl) (congrArg some (congrArg Value.int (by first | rfl | (simp only [roM, rowP, jinc, jc, h_1, h_2, hfc, ↓reduceIte, Bool.false_eq_true]; done) | (simp only [roM, rowP, jinc, jc, h_1, h_2, hfc, ↓reduceIte, Bool.false_eq_true]; rfl) | (unfold roM; (repeat' split) <;> first | rfl | contradiction | (simp_all; done))))) (by first | rfl | (simp only [roM, rowP, jinc, jc, h_1, h_2, hfc, ↓reduceIte, Bool.false_eq_true]; done) | (simp only [roM, rowP, jinc, jc, h_1, h_2, hfc, ↓reduceIte, Bool.false_eq_true]; rfl))
      ·
        have hfc := iwT2 ‹¬ sort < 0› h_2
        refine ab_iload_n hX dX11_row_21 mm4 ?_
        refine ab_bipush (v := 100) hX dX11_row_22 (by decide) ?_
        refine ab_icmple (tgt := 29) hX dX11_row_24 (by decide) (fun h_3 => ?_) (fun h_3 => ?_)
        ·
          refine ab_iload_n hX dX11_row_29 mm4 ?_
          refine ab_ifge (tgt := 36) hX dX11_row_30 (by decide) (fun h_4 => ?_) (fun h_4 => ?_)
          ·
            refine ab_aload hX dX11_row_36 mm0 ?_
            refine ab_iload_n hX dX11_row_38 mm3 ?_
            refine ab_iload_n hX dX11_row_39 mm4 ?_
            refine ab_callV2v hX dX11_row_40 (cg_sd hj) ss_X11_row_345 (cm_X9_holdRow hG hM hj) (Nat.le_of_ble_eq_true rfl) ?_
            refine ab_iconst (v := 0) hX dX11_row_43 (by decide) ?_
            exact ab_ireturn hX hF dX11_row_44 rfl (by rfl) (congrArg some (congrArg Value.int (by first | rfl | (simp only [roM, rowP, jinc, jc, h_1, h_2, hfc, h_3, h_4, ↓reduceIte, Bool.false_eq_true]; done) | (simp only [roM, rowP, jinc, jc, h_1, h_2, hfc, h_3, h_4, ↓reduceIte, Bool.false_eq_true]; rfl) | (unfold roM; (repeat' split) <;> first | rfl | contradiction | (simp_all; done))))) (by first | rfl | (simp only [roM, rowP, jinc, jc, h_1, h_2, hfc, h_3, h_4, ↓reduceIte, Bool.false_eq_true]; done) | (simp only [roM, rowP, jinc, jc, h_1, h_2, hfc, h_3, h_4, ↓reduceIte, Bool.false_eq_true]; rfl))
          ·
            refine ab_bipush (v := (-14)) hX dX11_row_33 (by decide) ?_
            exact ab_ireturn hX hF dX11_row_35 rfl (by rfl) (congrArg some (congrArg Value.int (by first | rfl | (simp only [roM, rowP, jinc, jc, h_1, h_2, hfc, h_3, h_4, ↓reduceIte, Bool.false_eq_true]; done) | (simp only [roM, rowP, jinc, jc, h_1, h_2, hfc, h_3, h_4, ↓reduceIte, Bool.false_eq_true]; rfl) | (unfold roM; (repeat' split) <;> first | rfl | contradiction | (simp_all; done))))) (by first | rfl | (simp only [roM, rowP, jinc, jc, h_1, h_2, hfc, h_3, h_4, ↓reduceIte, Bool.false_eq_true]; done) | (simp only [roM, rowP, jinc, jc, h_1, h_2, hfc, h_3, h_4, ↓reduceIte, Bool.false_eq_true]; rfl))
        ·
          refine ab_iconst (v := (-1)) hX dX11_row_27 (by decide) ?_
          exact ab_ireturn hX hF dX11_row_28 rfl (by rfl) (congrArg some (congrArg Value.int (by first | rfl | (simp only [roM, rowP, jinc, jc, h_1, h_2, hfc, h_3, ↓reduceIte, Bool.false_eq_true]; done) | (simp only [roM, rowP, jinc, jc, h_1, h_2, hfc, h_3, ↓reduceIte, Bool.false_eq_true]; rfl) | (unfold roM; (repeat' split) <;> first | rfl | contradiction | (simp_all; done))))) (by first | rfl | (simp only [roM, rowP, jinc, jc, h_1, h_2, hfc, h_3, ↓reduceIte, Bool.false_eq_true]; done) | (simp only [roM, rowP, jinc, jc, h_1, h_2, hfc, h_3, ↓reduceIte, Bool.false_eq_true]; rfl))
  ·
    refine ab_callV1r hX dX11_row_2 cg_x ss_X11_row_75 (sh_no hG hM hno) (Nat.le_of_ble_eq_true rfl) ?_
    refine ab_astoreN hX dX11_row_5 (by decide) rfl ?_
    refine ab_aloadN hX dX11_row_7 mm0 ?_
    refine ab_ifnullN (tgt := 27) hX dX11_row_9 (by decide) ?_
    refine ab_iconst (v := (-1)) hX dX11_row_27 (by decide) ?_
    exact ab_ireturn hX hF dX11_row_28 rfl (by rfl) (congrArg some (congrArg Value.int (by first | rfl | (simp only [roM, rowP, hno, ↓reduceIte, Bool.false_eq_true]; done) | (simp only [roM, rowP, hno, ↓reduceIte, Bool.false_eq_true]; rfl) | (unfold roM; (repeat' split) <;> first | rfl | contradiction | (simp_all; done))))) (by first | rfl | (simp only [roM, rowP, hno, ↓reduceIte, Bool.false_eq_true]; done) | (simp only [roM, rowP, hno, ↓reduceIte, Bool.false_eq_true]; rfl))
theorem cm_X11_put {G : ab_G} (hG : ab_GG G) {c : CS} {M D : List ab_E} (hM : M.length = 1) {d : Int32} {i : Int32} {v : Int32}  : ab_CM G mX11_put [.ref 0, .int d, .int i, .int v] (cH c M D) (some (.int (putR c d i))) (cH (putP c d i v) M D) := by
  refine ab_meth (l0 := [(0, .ref 0), (1, .int d), (2, .int i), (3, .int v)]) hG (by decide +kernel) rfl (Nat.le_of_ble_eq_true rfl) (cH_lenE (Nat.le_refl _)) (cH_szE (Nat.le_refl _)) (fun X hX hF => ?_)
  refine ab_aload_n hX dX11_put_0 mm0 ?_
  refine ab_iload_n hX dX11_put_1 mm1 ?_
  rcases sh_cases d with ⟨j, hj, rfl, jinc, jc⟩ | hno
  ·
    refine ab_callV1r hX dX11_put_2 cg_x ss_X11_put_75 (sh_ok hG hM hj) (Nat.le_of_ble_eq_true rfl) ?_
    refine ab_astore hX dX11_put_5 (by decide) rfl ?_
    refine ab_aload hX dX11_put_7 mm0 ?_
    refine ab_ifnonnull (tgt := 14) hX dX11_put_9 (by decide) ?_
    refine ab_aload hX dX11_put_14 mm0 ?_
    refine ab_callV0r hX dX11_put_16 (cg_sd hj) ss_X11_put_79 (cm_X9_refusalAsRow hG hM hj) (Nat.le_of_ble_eq_true rfl) ?_
    refine ab_istore hX dX11_put_19 (by decide) rfl ?_
    refine ab_iload hX dX11_put_21 mm0 ?_
    refine ab_ifeq (tgt := 29) hX dX11_put_23 (by decide) (fun h_1 => ?_) (fun h_1 => ?_)
    ·
      refine ab_aload hX dX11_put_29 mm1 ?_
      refine ab_iload_n hX dX11_put_31 mm4 ?_
      refine ab_iload_n hX dX11_put_32 mm5 ?_
      refine ab_callV2r hX dX11_put_33 (cg_sd hj) ss_X11_put_349 (cm_X9_setNumber hG hM hj) (Nat.le_of_ble_eq_true rfl) ?_
      refine ab_ifeqB (tgt := 43) hX dX11_put_36 (by decide) (fun h_2 => ?_) (fun h_2 => ?_)
      ·
        refine ab_bipush (v := (-13)) hX dX11_put_43 (by decide) ?_
        exact ab_ireturn hX hF dX11_put_45 rfl (by rfl) (congrArg some (congrArg Value.int (by first | rfl | (simp only [putR, putP, jinc, jc, h_1, h_2, ↓reduceIte, Bool.false_eq_true]; done) | (simp only [putR, putP, jinc, jc, h_1, h_2, ↓reduceIte, Bool.false_eq_true]; rfl) | (unfold putR; (repeat' split) <;> first | rfl | contradiction | (simp_all; done))))) (by first | rfl | (simp only [putR, putP, jinc, jc, h_1, h_2, ↓reduceIte, Bool.false_eq_true]; done) | (simp only [putR, putP, jinc, jc, h_1, h_2, ↓reduceIte, Bool.false_eq_true]; rfl))
      ·
        refine ab_iconst (v := 0) hX dX11_put_39 (by decide) ?_
        refine ab_goto (tgt := 45) hX dX11_put_40 (by decide) ?_
        exact ab_ireturn hX hF dX11_put_45 rfl (by rfl) (congrArg some (congrArg Value.int (by first | rfl | (simp only [putR, putP, jinc, jc, h_1, h_2, ↓reduceIte, Bool.false_eq_true]; done) | (simp only [putR, putP, jinc, jc, h_1, h_2, ↓reduceIte, Bool.false_eq_true]; rfl) | (unfold putR; (repeat' split) <;> first | rfl | contradiction | (simp_all; done))))) (by first | rfl | (simp only [putR, putP, jinc, jc, h_1, h_2, ↓reduceIte, Bool.false_eq_true]; done) | (simp only [putR, putP, jinc, jc, h_1, h_2, ↓reduceIte, Bool.false_eq_true]; rfl))
    ·
      refine ab_iload hX dX11_put_26 mm0 ?_
      exact ab_ireturn hX hF dX11_put_28 rfl (by rfl) (congrArg some (congrArg Value.int (by first | rfl | (simp only [putR, putP, jinc, jc, h_1, ↓reduceIte, Bool.false_eq_true]; done) | (simp only [putR, putP, jinc, jc, h_1, ↓reduceIte, Bool.false_eq_true]; rfl) | (unfold putR; (repeat' split) <;> first | rfl | contradiction | (simp_all; done))))) (by first | rfl | (simp only [putR, putP, jinc, jc, h_1, ↓reduceIte, Bool.false_eq_true]; done) | (simp only [putR, putP, jinc, jc, h_1, ↓reduceIte, Bool.false_eq_true]; rfl))
  ·
    refine ab_callV1r hX dX11_put_2 cg_x ss_X11_put_75 (sh_no hG hM hno) (Nat.le_of_ble_eq_true rfl) ?_
    refine ab_astoreN hX dX11_put_5 (by decide) rfl ?_
    refine ab_aloadN hX dX11_put_7 mm0 ?_
    refine ab_ifnonnullN hX dX11_put_9 ?_
    refine ab_iconst (v := (-1)) hX dX11_put_12 (by decide) ?_
    exact ab_ireturn hX hF dX11_put_13 rfl (by rfl) (congrArg some (congrArg Value.int (by first | rfl | (simp only [putR, putP, hno, ↓reduceIte, Bool.false_eq_true]; done) | (simp only [putR, putP, hno, ↓reduceIte, Bool.false_eq_true]; rfl) | (unfold putR; (repeat' split) <;> first | rfl | contradiction | (simp_all; done))))) (by first | rfl | (simp only [putR, putP, hno, ↓reduceIte, Bool.false_eq_true]; done) | (simp only [putR, putP, hno, ↓reduceIte, Bool.false_eq_true]; rfl))
theorem cm_X11_rules {G : ab_G} (hG : ab_GG G) {c : CS} {M D : List ab_E} (hM : M.length = 1) {d : Int32} {a : Int32} {b : Int32} (hK : ∀ d, d < 8 → ∃ k, k < 8 ∧ c.2.2.2 (10 + d) = .ref (kR k)) {Q : Nat → Nat × (Nat → SY)} (hGI : GI c D Q) : ab_CM G mX11_rules [.ref 0, .int d, .int a, .int b] (cH c M D) (some (.int (rulR c (Q (2 * 0)).1 d a b))) (cH (rulP c D (Q (2 * 0)).1 d a b).1 M (rulP c D (Q (2 * 0)).1 d a b).2) := by
  refine ab_meth (l0 := [(0, .ref 0), (1, .int d), (2, .int a), (3, .int b)]) hG (by decide +kernel) rfl (Nat.le_of_ble_eq_true rfl) (cH_lenE (le_rul hGI).1) (cH_szE (le_rul hGI).2) (fun X hX hF => ?_)
  refine ab_aload_n hX dX11_rules_0 mm0 ?_
  refine ab_iload_n hX dX11_rules_1 mm1 ?_
  rcases sh_cases d with ⟨j, hj, rfl, jinc, jc⟩ | hno
  ·
    obtain ⟨kd, hkd, hkr⟩ := hK _ hj
    have hskc := skc_k hkr
    refine ab_callV1r hX dX11_rules_2 cg_x ss_X11_rules_75 (sh_ok hG hM hj) (Nat.le_of_ble_eq_true rfl) ?_
    refine ab_astore hX dX11_rules_5 (by decide) rfl ?_
    refine ab_aload hX dX11_rules_7 mm0 ?_
    refine ab_ifnull hX dX11_rules_9 ?_
    refine ab_iload_n hX dX11_rules_12 mm3 ?_
    refine ab_callS1r hX dX11_rules_13 ss_X11_rules_135 (cm_X11_isFact hG) (Nat.le_of_ble_eq_true rfl) ?_
    refine ab_ifeqB (tgt := 26) hX dX11_rules_16 (by decide) (fun h_1 => ?_) (fun h_1 => ?_)
    ·
      refine ab_iconst (v := (-1)) hX dX11_rules_26 (by decide) ?_
      exact ab_ireturn hX hF dX11_rules_27 rfl (by rfl) (congrArg some (congrArg Value.int (by first | rfl | (simp only [rulR, rulP, nsD, jinc, jc, hskc, h_1, ↓reduceIte, Bool.false_eq_true]; done) | (simp only [rulR, rulP, nsD, jinc, jc, hskc, h_1, ↓reduceIte, Bool.false_eq_true]; rfl) | (unfold rulR; (repeat' split) <;> first | rfl | contradiction | (simp_all; done))))) (by first | rfl | (simp only [rulR, rulP, nsD, jinc, jc, hskc, h_1, ↓reduceIte, Bool.false_eq_true]; done) | (simp only [rulR, rulP, nsD, jinc, jc, hskc, h_1, ↓reduceIte, Bool.false_eq_true]; rfl))
    ·
      refine ab_iload_n hX dX11_rules_19 mm4 ?_
      refine ab_callS1r hX dX11_rules_20 ss_X11_rules_135 (cm_X11_isFact hG) (Nat.le_of_ble_eq_true rfl) ?_
      refine ab_ifneB (tgt := 28) hX dX11_rules_23 (by decide) (fun h_2 => ?_) (fun h_2 => ?_)
      ·
        refine ab_aload hX dX11_rules_28 mm0 ?_
        refine ab_callV0r hX dX11_rules_30 (cg_sd hj) ss_X11_rules_141 (cm_X9_refusalAsSaying hG hM hj) (Nat.le_of_ble_eq_true rfl) ?_
        refine ab_istore hX dX11_rules_33 (by decide) rfl ?_
        refine ab_iload hX dX11_rules_35 mm0 ?_
        refine ab_ifeq (tgt := 43) hX dX11_rules_37 (by decide) (fun h_3 => ?_) (fun h_3 => ?_)
        ·
          refine ab_aload_n hX dX11_rules_43 mm2 ?_
          refine ab_getfield hX dX11_rules_44 (fs_X11_25_12 rfl) cg_x rfl ?_
          refine ab_bipush (v := (-4)) hX dX11_rules_47 (by decide) ?_
          refine ab_aload hX dX11_rules_49 mm1 ?_
          refine ab_getfield hX dX11_rules_51 (fs_X11_148_10 rfl) (cg_sd hj) (by show some (c.2.2.2 (10 + j)) = _; rw [hkr]) ?_
          refine ab_aload hX dX11_rules_54 mm1 ?_
          refine ab_getfield hX dX11_rules_56 (fs_X11_152_10 rfl) (cg_sd hj) rfl ?_
          refine ab_iload_n hX dX11_rules_59 mm4 ?_
          refine ab_iload_n hX dX11_rules_60 mm5 ?_
          refine ab_callS5r hX dX11_rules_61 ss_X11_rules_155 (cm_X11_newSaying hG hM hkd) (Nat.le_of_ble_eq_true rfl) ?_
          rcases Nat.lt_or_ge (Q (2 * 0)).1 6 with hlt | hge
          ·
            refine ab_callV1r hX dX11_rules_64 (cg_tr (show 0 < 3 by decide)) ss_X11_rules_159 (ala_ok hG hM (show 0 < 3 by decide) ((GI_app _ hGI).1 (2 * 0) (by decide)) (cD_get hM ga_n) hlt) (Nat.le_of_ble_eq_true rfl) ?_
            refine ab_istore hX dX11_rules_67 (by decide) rfl ?_
            refine ab_iload hX dX11_rules_69 mm0 ?_
            refine ab_ifeq (tgt := 89) hX dX11_rules_71 (by decide) (fun h_4 => (by exact absurd h_4 (show ¬ (1 : Int32) = 0 by decide))) (fun h_4 => ?_)
            refine ab_aload_n hX dX11_rules_74 mm3 ?_
            refine ab_getfield hX dX11_rules_75 (fs_X11_25_12 rfl) cg_x rfl ?_
            refine ab_getfield hX dX11_rules_78 (fs_X11_94_11 rfl) (cg_tr (show 0 < 3 by decide)) rfl ?_
            refine ab_callV0r hX dX11_rules_81 (cg_al (by omega)) ss_X11_rules_163 (cm_Jx4a65c_size_8abf5 hG (cg_al (by omega))) (Nat.le_of_ble_eq_true rfl) ?_
            refine ab_iconst (v := 1) hX dX11_rules_84 (by decide) ?_
            refine ab_isub hX dX11_rules_85 ?_
            refine ab_goto (tgt := 91) hX dX11_rules_86 (by decide) ?_
            exact ab_ireturn hX hF dX11_rules_91 rfl (by rfl) (congrArg some (congrArg Value.int (by first | (rw [show (adP (2 * 0) _ _).1.1 (30 + 2 * 0) = _ from ad_sz ((GI_app _ hGI).1 (2 * 0) (by decide)), nI_pred]; simp only [rulR, jinc, jc, hskc, h_1, h_2, h_3, hlt, ↓reduceIte]; done) | (simp only [rulR, jinc, jc, hskc, h_1, h_2, h_3, hlt, ↓reduceIte]; done)))) (by first | rfl | (simp only [rulR, rulP, nsD, jinc, jc, hskc, h_1, h_2, h_3, hlt, ↓reduceIte, Bool.false_eq_true]; done) | (simp only [rulR, rulP, nsD, jinc, jc, hskc, h_1, h_2, h_3, hlt, ↓reduceIte, Bool.false_eq_true]; rfl))
          ·
            have hgec : ¬ (Q (2 * 0)).1 < 6 := by omega
            refine ab_callV1r hX dX11_rules_64 (cg_tr (show 0 < 3 by decide)) ss_X11_rules_159 (ala_no hG hM (show 0 < 3 by decide) ((GI_app _ hGI).1 (2 * 0) (by decide)) (cD_get hM ga_n) hgec) (Nat.le_of_ble_eq_true rfl) ?_
            refine ab_istore hX dX11_rules_67 (by decide) rfl ?_
            refine ab_iload hX dX11_rules_69 mm0 ?_
            refine ab_ifeq (tgt := 89) hX dX11_rules_71 (by decide) (fun h_5 => ?_) (fun h_5 => (by exact absurd (show (0 : Int32) = 0 by decide) h_5))
            refine ab_bipush (v := (-2)) hX dX11_rules_89 (by decide) ?_
            exact ab_ireturn hX hF dX11_rules_91 rfl (by rfl) (congrArg some (congrArg Value.int (by first | (rw [show (adP (2 * 0) _ _).1.1 (30 + 2 * 0) = _ from ad_sz ((GI_app _ hGI).1 (2 * 0) (by decide)), nI_pred]; simp only [rulR, jinc, jc, hskc, h_1, h_2, h_3, hgec, ↓reduceIte]; done) | (simp only [rulR, jinc, jc, hskc, h_1, h_2, h_3, hgec, ↓reduceIte]; done)))) (by first | rfl | (simp only [rulR, rulP, nsD, jinc, jc, hskc, h_1, h_2, h_3, hgec, ↓reduceIte, Bool.false_eq_true]; done) | (simp only [rulR, rulP, nsD, jinc, jc, hskc, h_1, h_2, h_3, hgec, ↓reduceIte, Bool.false_eq_true]; rfl))
        ·
          refine ab_iload hX dX11_rules_40 mm0 ?_
          exact ab_ireturn hX hF dX11_rules_42 rfl (by rfl) (congrArg some (congrArg Value.int (by first | rfl | (simp only [rulR, rulP, nsD, jinc, jc, hskc, h_1, h_2, h_3, ↓reduceIte, Bool.false_eq_true]; done) | (simp only [rulR, rulP, nsD, jinc, jc, hskc, h_1, h_2, h_3, ↓reduceIte, Bool.false_eq_true]; rfl) | (unfold rulR; (repeat' split) <;> first | rfl | contradiction | (simp_all; done))))) (by first | rfl | (simp only [rulR, rulP, nsD, jinc, jc, hskc, h_1, h_2, h_3, ↓reduceIte, Bool.false_eq_true]; done) | (simp only [rulR, rulP, nsD, jinc, jc, hskc, h_1, h_2, h_3, ↓reduceIte, Bool.false_eq_true]; rfl))
      ·
        refine ab_iconst (v := (-1)) hX dX11_rules_26 (by decide) ?_
        exact ab_ireturn hX hF dX11_rules_27 rfl (by rfl) (congrArg some (congrArg Value.int (by first | rfl | (simp only [rulR, rulP, nsD, jinc, jc, hskc, h_1, h_2, ↓reduceIte, Bool.false_eq_true]; done) | (simp only [rulR, rulP, nsD, jinc, jc, hskc, h_1, h_2, ↓reduceIte, Bool.false_eq_true]; rfl) | (unfold rulR; (repeat' split) <;> first | rfl | contradiction | (simp_all; done))))) (by first | rfl | (simp only [rulR, rulP, nsD, jinc, jc, hskc, h_1, h_2, ↓reduceIte, Bool.false_eq_true]; done) | (simp only [rulR, rulP, nsD, jinc, jc, hskc, h_1, h_2, ↓reduceIte, Bool.false_eq_true]; rfl))
  ·
    refine ab_callV1r hX dX11_rules_2 cg_x ss_X11_rules_75 (sh_no hG hM hno) (Nat.le_of_ble_eq_true rfl) ?_
    refine ab_astoreN hX dX11_rules_5 (by decide) rfl ?_
    refine ab_aloadN hX dX11_rules_7 mm0 ?_
    refine ab_ifnullN (tgt := 26) hX dX11_rules_9 (by decide) ?_
    refine ab_iconst (v := (-1)) hX dX11_rules_26 (by decide) ?_
    exact ab_ireturn hX hF dX11_rules_27 rfl (by rfl) (congrArg some (congrArg Value.int (by first | rfl | (simp only [rulR, rulP, nsD, hno, ↓reduceIte, Bool.false_eq_true]; done) | (simp only [rulR, rulP, nsD, hno, ↓reduceIte, Bool.false_eq_true]; rfl) | (unfold rulR; (repeat' split) <;> first | rfl | contradiction | (simp_all; done))))) (by first | rfl | (simp only [rulR, rulP, nsD, hno, ↓reduceIte, Bool.false_eq_true]; done) | (simp only [rulR, rulP, nsD, hno, ↓reduceIte, Bool.false_eq_true]; rfl))
theorem cm_X11_says {G : ab_G} (hG : ab_GG G) {c : CS} {M D : List ab_E} (hM : M.length = 1) {w : Int32} {d : Int32} {a : Int32} {b : Int32} (hK : ∀ d, d < 8 → ∃ k, k < 8 ∧ c.2.2.2 (10 + d) = .ref (kR k)) {Q : Nat → Nat × (Nat → SY)} (hGI : GI c D Q) : ab_CM G mX11_says [.ref 0, .int w, .int d, .int a, .int b] (cH c M D) (some (.int (sayR c (Q (2 * 0 + 1)).1 w d a b))) (cH (sayP c D (Q (2 * 0 + 1)).1 w d a b).1 M (sayP c D (Q (2 * 0 + 1)).1 w d a b).2) := by
  refine ab_meth (l0 := [(0, .ref 0), (1, .int w), (2, .int d), (3, .int a), (4, .int b)]) hG (by decide +kernel) rfl (Nat.le_of_ble_eq_true rfl) (cH_lenE (le_say hGI).1) (cH_szE (le_say hGI).2) (fun X hX hF => ?_)
  refine ab_aload_n hX dX11_says_0 mm0 ?_
  refine ab_iload_n hX dX11_says_1 mm2 ?_
  rcases sh_cases d with ⟨j, hj, rfl, jinc, jc⟩ | hno
  ·
    obtain ⟨kd, hkd, hkr⟩ := hK _ hj
    have hskc := skc_k hkr
    refine ab_callV1r hX dX11_says_2 cg_x ss_X11_says_75 (sh_ok hG hM hj) (Nat.le_of_ble_eq_true rfl) ?_
    refine ab_astore hX dX11_says_5 (by decide) rfl ?_
    refine ab_aload_n hX dX11_says_7 mm1 ?_
    refine ab_getfield hX dX11_says_8 (fs_X11_25_12 rfl) cg_x rfl ?_
    refine ab_iload_n hX dX11_says_11 mm2 ?_
    refine ab_callV1r hX dX11_says_12 (cg_tr (show 0 < 3 by decide)) ss_X11_says_128 (cm_X10_hasWitness hG hM (show 0 < 3 by decide)) (Nat.le_of_ble_eq_true rfl) ?_
    refine ab_ifeqB (tgt := 38) hX dX11_says_15 (by decide) (fun h_1 => ?_) (fun h_1 => ?_)
    ·
      refine ab_iconst (v := (-1)) hX dX11_says_38 (by decide) ?_
      exact ab_ireturn hX hF dX11_says_39 rfl (by rfl) (congrArg some (congrArg Value.int (by first | rfl | (simp only [sayR, sayP, nsD, jinc, jc, hskc, h_1, ↓reduceIte, Bool.false_eq_true]; done) | (simp only [sayR, sayP, nsD, jinc, jc, hskc, h_1, ↓reduceIte, Bool.false_eq_true]; rfl) | (unfold sayR; (repeat' split) <;> first | rfl | contradiction | (simp_all; done))))) (by first | rfl | (simp only [sayR, sayP, nsD, jinc, jc, hskc, h_1, ↓reduceIte, Bool.false_eq_true]; done) | (simp only [sayR, sayP, nsD, jinc, jc, hskc, h_1, ↓reduceIte, Bool.false_eq_true]; rfl))
    ·
      refine ab_aload hX dX11_says_18 mm0 ?_
      refine ab_ifnull hX dX11_says_20 ?_
      refine ab_iload_n hX dX11_says_23 mm4 ?_
      refine ab_callS1r hX dX11_says_24 ss_X11_says_135 (cm_X11_isFact hG) (Nat.le_of_ble_eq_true rfl) ?_
      refine ab_ifeqB (tgt := 38) hX dX11_says_27 (by decide) (fun h_2 => ?_) (fun h_2 => ?_)
      ·
        refine ab_iconst (v := (-1)) hX dX11_says_38 (by decide) ?_
        exact ab_ireturn hX hF dX11_says_39 rfl (by rfl) (congrArg some (congrArg Value.int (by first | rfl | (simp only [sayR, sayP, nsD, jinc, jc, hskc, h_1, h_2, ↓reduceIte, Bool.false_eq_true]; done) | (simp only [sayR, sayP, nsD, jinc, jc, hskc, h_1, h_2, ↓reduceIte, Bool.false_eq_true]; rfl) | (unfold sayR; (repeat' split) <;> first | rfl | contradiction | (simp_all; done))))) (by first | rfl | (simp only [sayR, sayP, nsD, jinc, jc, hskc, h_1, h_2, ↓reduceIte, Bool.false_eq_true]; done) | (simp only [sayR, sayP, nsD, jinc, jc, hskc, h_1, h_2, ↓reduceIte, Bool.false_eq_true]; rfl))
      ·
        refine ab_iload hX dX11_says_30 mm5 ?_
        refine ab_callS1r hX dX11_says_32 ss_X11_says_135 (cm_X11_isFact hG) (Nat.le_of_ble_eq_true rfl) ?_
        refine ab_ifneB (tgt := 40) hX dX11_says_35 (by decide) (fun h_3 => ?_) (fun h_3 => ?_)
        ·
          refine ab_aload hX dX11_says_40 mm0 ?_
          refine ab_callV0r hX dX11_says_42 (cg_sd hj) ss_X11_says_141 (cm_X9_refusalAsSaying hG hM hj) (Nat.le_of_ble_eq_true rfl) ?_
          refine ab_istore hX dX11_says_45 (by decide) rfl ?_
          refine ab_iload hX dX11_says_47 mm0 ?_
          refine ab_ifeq (tgt := 55) hX dX11_says_49 (by decide) (fun h_4 => ?_) (fun h_4 => ?_)
          ·
            refine ab_aload_n hX dX11_says_55 mm2 ?_
            refine ab_getfield hX dX11_says_56 (fs_X11_25_12 rfl) cg_x rfl ?_
            refine ab_iload_n hX dX11_says_59 mm3 ?_
            refine ab_aload hX dX11_says_60 mm1 ?_
            refine ab_getfield hX dX11_says_62 (fs_X11_148_10 rfl) (cg_sd hj) (by show some (c.2.2.2 (10 + j)) = _; rw [hkr]) ?_
            refine ab_aload hX dX11_says_65 mm1 ?_
            refine ab_getfield hX dX11_says_67 (fs_X11_152_10 rfl) (cg_sd hj) rfl ?_
            refine ab_iload_n hX dX11_says_70 mm5 ?_
            refine ab_iload hX dX11_says_71 mm6 ?_
            refine ab_callS5r hX dX11_says_73 ss_X11_says_155 (cm_X11_newSaying hG hM hkd) (Nat.le_of_ble_eq_true rfl) ?_
            rcases Nat.lt_or_ge (Q (2 * 0 + 1)).1 10 with hlt | hge
            ·
              refine ab_callV1r hX dX11_says_76 (cg_tr (show 0 < 3 by decide)) ss_X11_says_166 (asa_ok hG hM (show 0 < 3 by decide) ((GI_app _ hGI).1 (2 * 0 + 1) (by decide)) (cD_get hM ga_n) (w := w) rfl ‹hwT c 0 w = true› hlt) (Nat.le_of_ble_eq_true rfl) ?_
              refine ab_istore hX dX11_says_79 (by decide) rfl ?_
              refine ab_iload hX dX11_says_81 mm0 ?_
              refine ab_ifeq (tgt := 101) hX dX11_says_83 (by decide) (fun h_5 => (by exact absurd h_5 (show ¬ (1 : Int32) = 0 by decide))) (fun h_5 => ?_)
              refine ab_aload_n hX dX11_says_86 mm3 ?_
              refine ab_getfield hX dX11_says_87 (fs_X11_25_12 rfl) cg_x rfl ?_
              refine ab_getfield hX dX11_says_90 (fs_X11_107_11 rfl) (cg_tr (show 0 < 3 by decide)) rfl ?_
              refine ab_callV0r hX dX11_says_93 (cg_al (by omega)) ss_X11_says_163 (cm_Jx4a65c_size_8abf5 hG (cg_al (by omega))) (Nat.le_of_ble_eq_true rfl) ?_
              refine ab_iconst (v := 1) hX dX11_says_96 (by decide) ?_
              refine ab_isub hX dX11_says_97 ?_
              refine ab_goto (tgt := 103) hX dX11_says_98 (by decide) ?_
              exact ab_ireturn hX hF dX11_says_103 rfl (by rfl) (congrArg some (congrArg Value.int (by first | (rw [show (adP (2 * 0 + 1) _ _).1.1 (30 + (2 * 0 + 1)) = _ from ad_sz ((GI_app _ hGI).1 (2 * 0 + 1) (by decide)), nI_pred]; simp only [sayR, jinc, jc, hskc, h_1, h_2, h_3, h_4, hlt, ↓reduceIte]; done) | (simp only [sayR, jinc, jc, hskc, h_1, h_2, h_3, h_4, hlt, ↓reduceIte]; done)))) (by first | rfl | (simp only [sayR, sayP, nsD, jinc, jc, hskc, h_1, h_2, h_3, h_4, hlt, ↓reduceIte, Bool.false_eq_true]; done) | (simp only [sayR, sayP, nsD, jinc, jc, hskc, h_1, h_2, h_3, h_4, hlt, ↓reduceIte, Bool.false_eq_true]; rfl))
            ·
              have hgec : ¬ (Q (2 * 0 + 1)).1 < 10 := by omega
              refine ab_callV1r hX dX11_says_76 (cg_tr (show 0 < 3 by decide)) ss_X11_says_166 (asa_no hG hM (show 0 < 3 by decide) ((GI_app _ hGI).1 (2 * 0 + 1) (by decide)) (cD_get hM ga_n) (w := w) rfl hgec) (Nat.le_of_ble_eq_true rfl) ?_
              refine ab_istore hX dX11_says_79 (by decide) rfl ?_
              refine ab_iload hX dX11_says_81 mm0 ?_
              refine ab_ifeq (tgt := 101) hX dX11_says_83 (by decide) (fun h_6 => ?_) (fun h_6 => (by exact absurd (show (0 : Int32) = 0 by decide) h_6))
              refine ab_bipush (v := (-2)) hX dX11_says_101 (by decide) ?_
              exact ab_ireturn hX hF dX11_says_103 rfl (by rfl) (congrArg some (congrArg Value.int (by first | (rw [show (adP (2 * 0 + 1) _ _).1.1 (30 + (2 * 0 + 1)) = _ from ad_sz ((GI_app _ hGI).1 (2 * 0 + 1) (by decide)), nI_pred]; simp only [sayR, jinc, jc, hskc, h_1, h_2, h_3, h_4, hgec, ↓reduceIte]; done) | (simp only [sayR, jinc, jc, hskc, h_1, h_2, h_3, h_4, hgec, ↓reduceIte]; done)))) (by first | rfl | (simp only [sayR, sayP, nsD, jinc, jc, hskc, h_1, h_2, h_3, h_4, hgec, ↓reduceIte, Bool.false_eq_true]; done) | (simp only [sayR, sayP, nsD, jinc, jc, hskc, h_1, h_2, h_3, h_4, hgec, ↓reduceIte, Bool.false_eq_true]; rfl))
          ·
            refine ab_iload hX dX11_says_52 mm0 ?_
            exact ab_ireturn hX hF dX11_says_54 rfl (by rfl) (congrArg some (congrArg Value.int (by first | rfl | (simp only [sayR, sayP, nsD, jinc, jc, hskc, h_1, h_2, h_3, h_4, ↓reduceIte, Bool.false_eq_true]; done) | (simp only [sayR, sayP, nsD, jinc, jc, hskc, h_1, h_2, h_3, h_4, ↓reduceIte, Bool.false_eq_true]; rfl) | (unfold sayR; (repeat' split) <;> first | rfl | contradiction | (simp_all; done))))) (by first | rfl | (simp only [sayR, sayP, nsD, jinc, jc, hskc, h_1, h_2, h_3, h_4, ↓reduceIte, Bool.false_eq_true]; done) | (simp only [sayR, sayP, nsD, jinc, jc, hskc, h_1, h_2, h_3, h_4, ↓reduceIte, Bool.false_eq_true]; rfl))
        ·
          refine ab_iconst (v := (-1)) hX dX11_says_38 (by decide) ?_
          exact ab_ireturn hX hF dX11_says_39 rfl (by rfl) (congrArg some (congrArg Value.int (by first | rfl | (simp only [sayR, sayP, nsD, jinc, jc, hskc, h_1, h_2, h_3, ↓reduceIte, Bool.false_eq_true]; done) | (simp only [sayR, sayP, nsD, jinc, jc, hskc, h_1, h_2, h_3, ↓reduceIte, Bool.false_eq_true]; rfl) | (unfold sayR; (repeat' split) <;> first | rfl | contradiction | (simp_all; done))))) (by first | rfl | (simp only [sayR, sayP, nsD, jinc, jc, hskc, h_1, h_2, h_3, ↓reduceIte, Bool.false_eq_true]; done) | (simp only [sayR, sayP, nsD, jinc, jc, hskc, h_1, h_2, h_3, ↓reduceIte, Bool.false_eq_true]; rfl))
  ·
    refine ab_callV1r hX dX11_says_2 cg_x ss_X11_says_75 (sh_no hG hM hno) (Nat.le_of_ble_eq_true rfl) ?_
    refine ab_astoreN hX dX11_says_5 (by decide) rfl ?_
    refine ab_aload_n hX dX11_says_7 mm1 ?_
    refine ab_getfield hX dX11_says_8 (fs_X11_25_12 rfl) cg_x rfl ?_
    refine ab_iload_n hX dX11_says_11 mm2 ?_
    refine ab_callV1r hX dX11_says_12 (cg_tr (show 0 < 3 by decide)) ss_X11_says_128 (cm_X10_hasWitness hG hM (show 0 < 3 by decide)) (Nat.le_of_ble_eq_true rfl) ?_
    refine ab_ifeqB (tgt := 38) hX dX11_says_15 (by decide) (fun h_7 => ?_) (fun h_7 => ?_)
    ·
      refine ab_iconst (v := (-1)) hX dX11_says_38 (by decide) ?_
      exact ab_ireturn hX hF dX11_says_39 rfl (by rfl) (congrArg some (congrArg Value.int (by first | rfl | (simp only [sayR, sayP, nsD, hno, h_7, ↓reduceIte, Bool.false_eq_true]; done) | (simp only [sayR, sayP, nsD, hno, h_7, ↓reduceIte, Bool.false_eq_true]; rfl) | (unfold sayR; (repeat' split) <;> first | rfl | contradiction | (simp_all; done))))) (by first | rfl | (simp only [sayR, sayP, nsD, hno, h_7, ↓reduceIte, Bool.false_eq_true]; done) | (simp only [sayR, sayP, nsD, hno, h_7, ↓reduceIte, Bool.false_eq_true]; rfl))
    ·
      refine ab_aloadN hX dX11_says_18 mm0 ?_
      refine ab_ifnullN (tgt := 38) hX dX11_says_20 (by decide) ?_
      refine ab_iconst (v := (-1)) hX dX11_says_38 (by decide) ?_
      exact ab_ireturn hX hF dX11_says_39 rfl (by rfl) (congrArg some (congrArg Value.int (by first | rfl | (simp only [sayR, sayP, nsD, hno, h_7, ↓reduceIte, Bool.false_eq_true]; done) | (simp only [sayR, sayP, nsD, hno, h_7, ↓reduceIte, Bool.false_eq_true]; rfl) | (unfold sayR; (repeat' split) <;> first | rfl | contradiction | (simp_all; done))))) (by first | rfl | (simp only [sayR, sayP, nsD, hno, h_7, ↓reduceIte, Bool.false_eq_true]; done) | (simp only [sayR, sayP, nsD, hno, h_7, ↓reduceIte, Bool.false_eq_true]; rfl))
theorem cm_X11_unsays {G : ab_G} (hG : ab_GG G) {c : CS} {M D : List ab_E} (hM : M.length = 1)  {Q : Nat → Nat × (Nat → SY)} (hGI : GI c D Q) : ab_CM G mX11_unsays [.ref 0] (cH c M D) (some (.int (unsR (Q (2 * 0 + 1)).1))) (cH (unsP c D (Q (2 * 0 + 1)).1).1 M (unsP c D (Q (2 * 0 + 1)).1).2) := by
  refine ab_meth (l0 := [(0, .ref 0)]) hG (by decide +kernel) rfl (Nat.le_of_ble_eq_true rfl) (cH_lenE (le_uns hGI).1) (cH_szE (le_uns hGI).2) (fun X hX hF => ?_)
  have hz := (hGI.1 (2 * 0 + 1) (by decide)).1
  have hz10 := (hGI.1 (2 * 0 + 1) (by decide)).2.1
  refine ab_aload_n hX dX11_unsays_0 mm0 ?_
  refine ab_getfield hX dX11_unsays_1 (fs_X11_25_12 rfl) cg_x rfl ?_
  refine ab_getfield hX dX11_unsays_4 (fs_X11_107_11 rfl) (cg_tr (show 0 < 3 by decide)) rfl ?_
  refine ab_callV0r hX dX11_unsays_7 (cg_al (by omega)) ss_X11_unsays_163 (cm_Jx4a65c_size_8abf5 hG (cg_al (by omega))) (Nat.le_of_ble_eq_true rfl) ?_
  refine ab_iconst (v := 1) hX dX11_unsays_10 (by decide) ?_
  refine ab_isub hX dX11_unsays_11 ?_
  refine ab_istore_n hX dX11_unsays_12 rfl (by decide) rfl ?_
  refine ab_iload_n hX dX11_unsays_13 mm0 ?_
  refine ab_ifge (tgt := 20) hX dX11_unsays_14 (by decide) (fun h_1 => ?_) (fun h_1 => ?_)
  ·
    obtain ⟨n, hn⟩ : ∃ n, (Q (2 * 0 + 1)).1 = n + 1 := by
      rcases Nat.eq_zero_or_pos (Q (2 * 0 + 1)).1 with q | q
      · rw [hz, q] at h_1; exact absurd h_1 (by decide)
      · exact ⟨(Q (2 * 0 + 1)).1 - 1, by omega⟩
    have e1 : c.1 (30 + (2 * 0 + 1)) - 1 = nI n := by rw [hz, hn, nI_pred]
    rw [e1]
    have hL_ := hGI.1 (2 * 0 + 1) (by decide)
    rw [hn] at hL_
    obtain ⟨r_, hc_⟩ := cP_remove hG (M := M) hM (show 2 * 0 + 1 < 6 by decide) hL_
    refine ab_aload_n hX dX11_unsays_20 mm1 ?_
    refine ab_getfield hX dX11_unsays_21 (fs_X11_25_12 rfl) cg_x rfl ?_
    refine ab_getfield hX dX11_unsays_24 (fs_X11_107_11 rfl) (cg_tr (show 0 < 3 by decide)) rfl ?_
    refine ab_iload_n hX dX11_unsays_27 mm0 ?_
    refine ab_callV1r hX dX11_unsays_28 (cg_al (by omega)) ss_X11_unsays_169 hc_ (Nat.le_of_ble_eq_true rfl) ?_
    refine ab_pop hX dX11_unsays_31 rfl ?_
    refine ab_iload_n hX dX11_unsays_32 mm0 ?_
    exact ab_ireturn hX hF dX11_unsays_33 rfl (by rfl) (congrArg some (congrArg Value.int (by rw [unsR, if_neg (by omega), hn]; rfl))) (by rw [unsP, if_neg (by omega)])
  ·
    have hn : (Q (2 * 0 + 1)).1 = 0 := by
      rcases Nat.eq_zero_or_pos (Q (2 * 0 + 1)).1 with q | q
      · exact q
      · obtain ⟨n, hn⟩ : ∃ n, (Q (2 * 0 + 1)).1 = n + 1 := ⟨(Q (2 * 0 + 1)).1 - 1, by omega⟩
        rw [hz, hn, nI_pred] at h_1; exact absurd (nI_pos' (by omega)) h_1
    refine ab_bipush (v := (-3)) hX dX11_unsays_17 (by decide) ?_
    exact ab_ireturn hX hF dX11_unsays_19 rfl (by rfl) (congrArg some (congrArg Value.int (by rw [unsR, if_pos hn]))) (by rw [unsP, if_pos hn])
theorem cm_X11_witness {G : ab_G} (hG : ab_GG G) {c : CS} {M D : List ab_E} (hM : M.length = 1) {w : Int32} {nw : Nat} (hw : c.1 (10 + 0) = nI nw) (hw5 : nw ≤ 5) : ab_CM G mX11_witness [.ref 0, .int w] (cH c M D) (some (.int (wtnR c w))) (cH (wtnP c w) M D) := by
  refine ab_meth (l0 := [(0, .ref 0), (1, .int w)]) hG (by decide +kernel) rfl (Nat.le_of_ble_eq_true rfl) (cH_lenE (Nat.le_refl _)) (cH_szE (Nat.le_refl _)) (fun X hX hF => ?_)
  refine ab_iload_n hX dX11_witness_0 mm1 ?_
  refine ab_callS1r hX dX11_witness_1 ss_X11_witness_173 (cm_X11_areFacts hG) (Nat.le_of_ble_eq_true rfl) ?_
  refine ab_ifneB (tgt := 9) hX dX11_witness_4 (by decide) (fun h_1 => ?_) (fun h_1 => ?_)
  ·
    refine ab_aload_n hX dX11_witness_9 mm0 ?_
    refine ab_getfield hX dX11_witness_10 (fs_X11_25_12 rfl) cg_x rfl ?_
    refine ab_iload_n hX dX11_witness_13 mm1 ?_
    refine ab_callV1r hX dX11_witness_14 (cg_tr (show 0 < 3 by decide)) ss_X11_witness_176 (cm_X10_addWitness hG hM (show 0 < 3 by decide) hw hw5) (Nat.le_of_ble_eq_true rfl) ?_
    refine ab_ifeqB (tgt := 32) hX dX11_witness_17 (by decide) (fun h_2 => ?_) (fun h_2 => ?_)
    ·
      refine ab_bipush (v := (-2)) hX dX11_witness_32 (by decide) ?_
      exact ab_ireturn hX hF dX11_witness_34 rfl (by rfl) (congrArg some (congrArg Value.int (by first | rfl | (simp only [wtnR, wtnP, h_1, h_2, ↓reduceIte, Bool.false_eq_true]; done) | (simp only [wtnR, wtnP, h_1, h_2, ↓reduceIte, Bool.false_eq_true]; rfl) | (unfold wtnR; (repeat' split) <;> first | rfl | contradiction | (simp_all; done))))) (by first | rfl | (simp only [wtnR, wtnP, h_1, h_2, ↓reduceIte, Bool.false_eq_true]; done) | (simp only [wtnR, wtnP, h_1, h_2, ↓reduceIte, Bool.false_eq_true]; rfl))
    ·
      refine ab_aload_n hX dX11_witness_20 mm0 ?_
      refine ab_getfield hX dX11_witness_21 (fs_X11_25_12 rfl) cg_x rfl ?_
      refine ab_getfield hX dX11_witness_24 (fs_X11_179_11 rfl) (cg_tr (show 0 < 3 by decide)) rfl ?_
      refine ab_iconst (v := 1) hX dX11_witness_27 (by decide) ?_
      refine ab_isub hX dX11_witness_28 ?_
      refine ab_goto (tgt := 34) hX dX11_witness_29 (by decide) ?_
      exact ab_ireturn hX hF dX11_witness_34 rfl (by rfl) (congrArg some (congrArg Value.int (by first | rfl | (simp only [wtnR, wtnP, h_1, h_2, ↓reduceIte, Bool.false_eq_true]; done) | (simp only [wtnR, wtnP, h_1, h_2, ↓reduceIte, Bool.false_eq_true]; rfl) | (unfold wtnR; (repeat' split) <;> first | rfl | contradiction | (simp_all; done))))) (by first | rfl | (simp only [wtnR, wtnP, h_1, h_2, ↓reduceIte, Bool.false_eq_true]; done) | (simp only [wtnR, wtnP, h_1, h_2, ↓reduceIte, Bool.false_eq_true]; rfl))
  ·
    refine ab_iconst (v := (-1)) hX dX11_witness_7 (by decide) ?_
    exact ab_ireturn hX hF dX11_witness_8 rfl (by rfl) (congrArg some (congrArg Value.int (by first | rfl | (simp only [wtnR, wtnP, h_1, ↓reduceIte, Bool.false_eq_true]; done) | (simp only [wtnR, wtnP, h_1, ↓reduceIte, Bool.false_eq_true]; rfl) | (unfold wtnR; (repeat' split) <;> first | rfl | contradiction | (simp_all; done))))) (by first | rfl | (simp only [wtnR, wtnP, h_1, ↓reduceIte, Bool.false_eq_true]; done) | (simp only [wtnR, wtnP, h_1, ↓reduceIte, Bool.false_eq_true]; rfl))
theorem cm_X11_truth {G : ab_G} (hG : ab_GG G) {c : CS} {M D : List ab_E} (hM : M.length = 1) {w : Int32}  : ab_CM G mX11_truth [.ref 0, .int w] (cH c M D) (some (.int (trtR c w))) (cH (trtP c w) M D) := by
  refine ab_meth (l0 := [(0, .ref 0), (1, .int w)]) hG (by decide +kernel) rfl (Nat.le_of_ble_eq_true rfl) (cH_lenE (Nat.le_refl _)) (cH_szE (Nat.le_refl _)) (fun X hX hF => ?_)
  refine ab_iload_n hX dX11_truth_0 mm1 ?_
  refine ab_callS1r hX dX11_truth_1 ss_X11_truth_138 (cm_X11_isWorld hG) (Nat.le_of_ble_eq_true rfl) ?_
  refine ab_ifneB (tgt := 9) hX dX11_truth_4 (by decide) (fun h_1 => ?_) (fun h_1 => ?_)
  ·
    refine ab_aload_n hX dX11_truth_9 mm0 ?_
    refine ab_getfield hX dX11_truth_10 (fs_X11_25_12 rfl) cg_x rfl ?_
    refine ab_getfield hX dX11_truth_13 (fs_X11_114_11 rfl) (cg_tr (show 0 < 3 by decide)) rfl ?_
    refine ab_istore_n hX dX11_truth_16 rfl (by decide) rfl ?_
    refine ab_aload_n hX dX11_truth_17 mm1 ?_
    refine ab_getfield hX dX11_truth_18 (fs_X11_25_12 rfl) cg_x rfl ?_
    refine ab_iload_n hX dX11_truth_21 mm2 ?_
    refine ab_putfield hX dX11_truth_22 ps_X11_truth_114_11 (cg_tr (show 0 < 3 by decide)) (Nat.le_of_ble_eq_true rfl) rfl rfl (cs_tru (show 0 < 3 by decide)) ?_
    refine ab_iload_n hX dX11_truth_25 mm0 ?_
    exact ab_ireturn hX hF dX11_truth_26 rfl (by rfl) (congrArg some (congrArg Value.int (by first | rfl | (simp only [trtR, trtP, h_1, ↓reduceIte, Bool.false_eq_true]; done) | (simp only [trtR, trtP, h_1, ↓reduceIte, Bool.false_eq_true]; rfl) | (unfold trtR; (repeat' split) <;> first | rfl | contradiction | (simp_all; done))))) (by first | rfl | (simp only [trtR, trtP, h_1, ↓reduceIte, Bool.false_eq_true]; done) | (simp only [trtR, trtP, h_1, ↓reduceIte, Bool.false_eq_true]; rfl))
  ·
    refine ab_iconst (v := (-1)) hX dX11_truth_7 (by decide) ?_
    exact ab_ireturn hX hF dX11_truth_8 rfl (by rfl) (congrArg some (congrArg Value.int (by first | rfl | (simp only [trtR, trtP, h_1, ↓reduceIte, Bool.false_eq_true]; done) | (simp only [trtR, trtP, h_1, ↓reduceIte, Bool.false_eq_true]; rfl) | (unfold trtR; (repeat' split) <;> first | rfl | contradiction | (simp_all; done))))) (by first | rfl | (simp only [trtR, trtP, h_1, ↓reduceIte, Bool.false_eq_true]; done) | (simp only [trtR, trtP, h_1, ↓reduceIte, Bool.false_eq_true]; rfl))

