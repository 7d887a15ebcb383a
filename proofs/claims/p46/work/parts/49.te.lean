/-! one trial tells one sum, whatever else has changed -/
def SameT (c0 : CS) (Q0 : QT) (c : CS) (Q : QT) : Prop := c.1 (20 + 0) = c0.1 (20 + 0) ∧ (∀ j, j < 5 → c.2.1 0 j = c0.2.1 0 j) ∧ Q (2 * 0) = Q0 (2 * 0) ∧ Q (2 * 0 + 1) = Q0 (2 * 0 + 1)
theorem SameT_rf (c : CS) (Q : QT) : SameT c Q c Q := ⟨rfl, fun _ _ => rfl, rfl, rfl⟩
theorem SameT_fs {c0 c e : CS} {Q0 Q Q2 : QT} (h : SameT c0 Q0 c Q) (f : frS c e) (e0 : Q2 (2 * 0) = Q (2 * 0)) (e1 : Q2 (2 * 0 + 1) = Q (2 * 0 + 1)) : SameT c0 Q0 e Q2 := ⟨(f.1 _ (Or.inl (by decide))).trans h.1, fun j hj => (congrFun (f.2.1 0) j).trans (h.2.1 j hj), e0.trans h.2.2.1, e1.trans h.2.2.2⟩
theorem tn_lt {w : Int32} (h0 : ¬ w < 0) (h5 : ¬ 5 ≤ w) : tn w < 5 := by
  obtain ⟨j, hj, rfl⟩ := nI_of h0
  have h3 : j < 5 := Nat.not_le.mp fun q => h5 (nI_le (a := 5) q hj)
  rw [tn8 (by omega)]
  exact h3
theorem kb_e {c e : CS} (h : ∀ j, j < 5 → e.2.1 0 j = c.2.1 0 j) : kbT e 0 = kbT c 0 := by
  funext w
  unfold kbT
  split
  · rfl
  · split
    · rfl
    · exact h _ (tn_lt ‹_› ‹_›)
theorem toF_e {c0 c : CS} {D0 D : List ab_E} {Q0 Q : QT} {nw : Nat} (h : PI c D Q nw) (h0 : PI c0 D0 Q0 nw) (s : SameT c0 Q0 c Q) : toF c Q nw = toF c0 Q0 nw := by
  obtain ⟨s1, s2, s3, s4⟩ := s
  have hk := kb_e s2
  have h10 : c.1 (10 + 0) = c0.1 (10 + 0) := h.2.1.trans h0.2.1.symm
  have h30 : c.1 (30 + 2 * 0) = c0.1 (30 + 2 * 0) := (h.1.1 (2 * 0) (by decide)).1.trans ((congrArg (fun z : Nat × (Nat → SY) => nI z.1) s3).trans (h0.1.1 (2 * 0) (by decide)).1.symm)
  have h31 : c.1 (30 + (2 * 0 + 1)) = c0.1 (30 + (2 * 0 + 1)) := (h.1.1 (2 * 0 + 1) (by decide)).1.trans ((congrArg (fun z : Nat × (Nat → SY) => nI z.1) s4).trans (h0.1.1 (2 * 0 + 1) (by decide)).1.symm)
  have hhw : hwT c 0 = hwT c0 0 := by funext w; unfold hwT; rw [h10]
  have e_il : ilB c = ilB c0 := by funext i w; unfold ilB; rw [hk, s1]
  have e_li : liG c = liG c0 := by funext lf w i p; unfold liG; rw [e_il]
  have e_lp : liP c = liP c0 := by funext lf w; unfold liP; rw [e_li]
  have e_lie : lieC c = lieC c0 := by funext lf w what; unfold lieC; rw [hhw, e_lp]
  have e_cert : certC c = certC c0 := by funext lf w; unfold certC; rw [hhw, hk, s1]
  have e_ko : koG c = koG c0 := by funext lf th o i b; unfold koG; rw [hk]
  have e_kno : knofC c = knofC c0 := by funext lf a b; unfold knofC; rw [hhw, e_ko, hk, s1]
  have e_rg : rcG c 0 = rcG c0 0 := by funext lf v w b; unfold rcG; rw [hk]
  have e_ri : rcI c 0 = rcI c0 0 := by funext wo lf v w b; unfold rcI; rw [e_rg]
  have e_rt : rcT c 0 = rcT c0 0 := by funext nw wo lf; unfold rcT; rw [e_ri]
  have e_al : alG c = alG c0 := by funext nw lf i r; unfold alG; rw [e_rt]
  have e_ak : alkC c = alkC c0 := by funext nw lf n; unfold alkC; rw [h10, e_al, s1]
  have e_or : orderC c = orderC c0 := by funext a b d e f g; unfold orderC; rw [h10]
  have e_wi : withC c = withC c0 := by funext a b d e f; unfold withC; rw [hhw]
  have e_kn : knowC c = knowC c0 := by funext w; unfold knowC; rw [hhw, hk]
  have e_la : lawC c = lawC c0 := by funext ql k what; unfold lawC; rw [h30]
  have e_sa : saidC c = saidC c0 := by funext qs k what; unfold saidC; rw [h31, s1]
  have e_alo : aloneC c = aloneC c0 := by funext a b d e; unfold aloneC; rw [h31]
  have e_cn : cntC c = cntC c0 := by funext a b d e f; unfold cntC; rw [h30, h31, h10, s1]
  have e_tA : tA c Q = tA c0 Q0 := by funext i z; unfold tA; rw [e_cn, s3, s4]
  have e_tB1 : tB1 c Q = tB1 c0 Q0 := by funext k j z; unfold tB1; rw [e_la, s3]
  have e_tB : tB c Q = tB c0 Q0 := by funext k z; unfold tB; rw [e_tB1]
  have e_tC1 : tC1 c Q = tC1 c0 Q0 := by funext k j z; unfold tC1; rw [e_sa, s4]
  have e_tC : tC c Q = tC c0 Q0 := by funext k z; unfold tC; rw [e_tC1, e_alo, s3, s4]
  have e_tD : tD c Q = tD c0 Q0 := by funext w z; unfold tD; rw [e_kn, e_wi, e_lie, e_cert, e_kno, s3, s4]
  have e_tE : tE c Q = tE c0 Q0 := by funext i z; unfold tE; rw [s3, s4, s1]
  have e_tF : tF c Q = tF c0 Q0 := by funext n z; unfold tF; rw [s3, s4, s1]
  have e_tG : tG c Q = tG c0 Q0 := by funext n z; unfold tG; rw [e_or, e_ak, s3, s4, s1]
  unfold toF tS
  rw [e_tA, e_tB, e_tC, e_tD, e_tE, e_tF, e_tG, s3, s4]
