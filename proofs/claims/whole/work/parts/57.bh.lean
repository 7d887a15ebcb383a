/-! a told trial, all of it -/
theorem T2_mI {e : CS} {Q : QT} {nw : Nat} {s : MS} (h : T2 e Q nw s) : mI s (Q (2 * 2)).1 nw (Q (2 * 2 + 1)).1 := ⟨h.2.2.2.1, h.1, h.2.2.2.2.2.1, h.2.2.1, h.2.2.2.2.1, h.2.1⟩
theorem p2_en {c : CS} {d n : Nat} (hd : d < 8) (h80 : c.1 (80 + d) = nI n) : ∀ (k m cnt a : Nat) (p : CD) (Q : QT) (nw : Nat) (s : MS), n < a + k → n ≤ a + 4 * m → a ≤ n → enI c p Q nw → T2 p.1 Q nw s → pI s d n → s.1 13 = nI a → (∀ i, i < n → txt s d i = nuA c d (nI i)) → (a < n → ∃ q, bpN c d q a < 0 ∧ 101 ≤ a + q) →
    (∃ s' p' K Q' nw', p2S d k cnt s = (s', nI K) ∧ enN d m cnt a p = (p', nI K, true) ∧ enI c p' Q' nw' ∧ T2 p'.1 Q' nw' s' ∧ MF s s' ∧ ∀ l, l < 4 → Q' l = Q l) ∨
    ∃ r b p' Q' nw', p2S d k cnt s = (agS 17 r, -2000 - nI b) ∧ enN d m cnt a p = (p', -2000 - nI b, false) ∧ enI c p' Q' nw' ∧ MF s r ∧ ∀ l, l < 4 → Q' l = Q l
  | 0, m, cnt, a, p, Q, nw, s, hk, _, ha, _, _, _, _, _, _ => by omega
  | k + 1, m, cnt, a, p, Q, nw, s, hk, hm, ha, hI, h2, hP, h13, hg, hb => by
    have hn := hP.2.2.2.2.2
    have h10 : s.2.1 10 d = nI n := hP.2.2.2.2.1
    have e80 : p.1.1 (80 + d) = nI n := (hI.2.1.1 (80 + d) (by omega) (by omega) (by omega)).trans h80
    rw [p2S_s (T2_mI h2), h10, h13]
    by_cases q : a = n
    · subst q
      rw [if_pos (nI_le (Nat.le_refl _) (by omega)), enN_end (by rw [e80]; exact nI_nlt (Nat.le_refl _) (by omega))]
      exact Or.inl ⟨s, p, cnt, Q, nw, rfl, rfl, hI, h2, MF_rf s, fun _ _ => rfl⟩
    · have han : a < n := by omega
      rw [if_neg (nI_ge han (by omega))]
      obtain ⟨m, rfl⟩ : ∃ x, m = x + 1 := ⟨m - 1, by omega⟩
      obtain ⟨b, hb1, hb2⟩ := hb han
      obtain ⟨x, hx5, hx, hdig, h59, hgo⟩ := bp_inv (by omega) hb1 hb2
      have hx2 := dg_2 hx hx5
      have nu : ∀ i, nuA p.1 d i = nuA c d i := fun i => nu_fr hI.2.1 i
      have hin : a + (x + 1) < n := by
        apply Nat.lt_of_not_le
        intro z
        rw [nu_out h80 hn z (by omega)] at h59
        exact absurd h59 (by decide)
      obtain ⟨g1, g2, g3⟩ := en_step hd hI h2 hP h13 han (fun i hi => by rw [nu]; exact hg i hi) hx5 (by rw [nu]; exact hx) (fun j h1 h2 => by rw [nu]; exact hdig j h1 h2) hin
      rw [enN_s, e80, if_pos (nI_lt han (by omega)), nu, hx, tn_nI (by omega)]
      rcases g3 with ⟨y1, y2, Q2, nw2, y3, y4⟩ | ⟨y1, y2, Q2, nw2, y3, y4, y5⟩
      · rw [if_pos y1, if_neg (by rw [y2]; decide)]
        exact Or.inr ⟨_, a, _, Q2, nw2, rfl, rfl, y3, g2, y4⟩
      · rw [if_neg (by rw [y1]; decide), if_pos y2]
        generalize (stS d (Q (2 * 2)).1 nw (Q (2 * 2 + 1)).1 1 s).1 = r at g1 g2 y4
        have tr : ∀ i, txt r d i = txt s d i := fun i => congrFun (g2.2 11 (by decide) (by decide) (by decide) (by decide) (by decide)) _
        have rP : pI r d n := ⟨(g2.1 12 (by decide) (by decide) (by decide) (by decide) (by decide)).trans hP.1, hd, by rw [g1, tn_nI (by omega)], by rw [g1, tn_nI (by omega)]; omega, (congrFun (g2.2 10 (by decide) (by decide) (by decide) (by decide) (by decide)) d).trans h10, hn⟩
        have hS : isS r d 59 = mu1 r 13 (r.1 13 + 1) := isS_t ((isB_T rP).mpr (by
          rw [g1, tn_nI (by omega), tr, hg _ hin]
          exact ⟨by omega, h59⟩))
        have hne : ¬ r.1 13 = r.2.1 10 d := fun z => by have := (pI_end rP).mp z; rw [g1, tn_nI (by omega)] at this; omega
        have e13 : (mu1 r 13 (r.1 13 + 1)).1 13 = nI (a + (x + 2)) := by
          show upd r.1 13 (r.1 13 + 1) 13 = _
          rw [pk_us, g1, nI_1]; rfl
        rw [hS]
        have ih := p2_en hd h80 k m (cnt + 1) (a + (x + 2)) (enX d (nI a) p).1 Q2 nw2 (mu1 r 13 (r.1 13 + 1)) (by omega) (by omega) (by omega) y3 (T2_rd y4 (rd_up r _)) (pI_up rP hne) e13 (fun i hi => (tr i).trans (hg i hi)) (fun z => hgo (by rw [h80]; exact nI_lt z (by omega)))
        have MM : MF s (mu1 r 13 (r.1 13 + 1)) := MF_tr g2 (MF_rd (rd_up r _))
        rcases ih with ⟨s', p', K, Q', nw', i1, i2, i3, i4, i5, i6⟩ | ⟨r', b', p', Q', nw', i1, i2, i3, i4, i5⟩
        · exact Or.inl ⟨s', p', K, Q', nw', i1, i2, i3, i4, MF_tr MM i5, fun l hl => (i6 l hl).trans (y5 l hl)⟩
        · exact Or.inr ⟨r', b', p', Q', nw', i1, i2, i3, MF_tr MM i4, fun l hl => (i5 l hl).trans (y5 l hl)⟩
section
variable {c : CS} {D : List ab_E} {Q : QT} {nw : Nat} {s : MS}
/-- a row that tells a trial: what both make of it -/
theorem tr_all (h : RS c D Q nw s) {j : Nat} (hj : j < 8) (h5 : c.1 (50 + j) = 2) : (∃ q, bpN c j 101 0 = nI q ∧ q ≤ 100 ∧ (trP s j (Q (2 * 0)).1 nw (Q (2 * 0 + 1)).1).2 = false ∧ (trP s j (Q (2 * 0)).1 nw (Q (2 * 0 + 1)).1).1.1 13 = nI q ∧ RS c D Q nw (trP s j (Q (2 * 0)).1 nw (Q (2 * 0 + 1)).1).1) ∨
    (bpN c j 101 0 < 0 ∧ (trP s j (Q (2 * 0)).1 nw (Q (2 * 0 + 1)).1).2 = true ∧ (enZ j (enB c D Q)).2.1 = (trQ s j (Q (2 * 0)).1 nw (Q (2 * 0 + 1)).1).2 ∧ ∃ Q2 nw2, RS (enaP j c D Q).1 (enaP j c D Q).2 Q2 nw2 (trQ s j (Q (2 * 0)).1 nw (Q (2 * 0 + 1)).1).1) := by
  obtain ⟨m8, o, n, ho, hn, e7, m9, e8, m10, f⟩ := sr_2 (rs_sr h hj) h5
  have hT : tx c j n (txt s j) := ⟨hn, e8, fun i hi => (nu_in e8 hn hi).trans (f i (by omega)), fun i h1 h2 => nu_out e8 hn h1 h2⟩
  have hz : rdF s (mu1 s 13 0) := rd_up s 0
  have hmI := rs_I h
  obtain ⟨a1, a2, a3, a4, a5⟩ := p1_E (t := j) (n := n) (nl := (Q (2 * 0)).1) (nw := nw) (ns := (Q (2 * 0 + 1)).1) 101 (s := trZ s j) (pI_0 hj hn m10) hmI (by show n < 0 + 101; omega)
  have F : rdF (trZ s j) (trP s j (Q (2 * 0)).1 nw (Q (2 * 0 + 1)).1).1 := rd_p1 101 (trZ s j)
  have et : txt (trZ s j) j = txt s j := rfl
  have e0 : tn ((trZ s j).1 13) = 0 := rfl
  rw [et, e0] at a1 a2
  have a1 : (trP s j (Q (2 * 0)).1 nw (Q (2 * 0 + 1)).1).2 = _ := a1
  have a2 : tn ((trP s j (Q (2 * 0)).1 nw (Q (2 * 0 + 1)).1).1.1 13) = _ := a2
  have a3 : pI (trP s j (Q (2 * 0)).1 nw (Q (2 * 0 + 1)).1).1 j n := a3
  have hQ : trQ s j (Q (2 * 0)).1 nw (Q (2 * 0 + 1)).1 = p2S j 101 0 (mu1 (kpS 17 (trP s j (Q (2 * 0)).1 nw (Q (2 * 0 + 1)).1).1) 13 0) := rfl
  rw [hQ]
  generalize trP s j (Q (2 * 0)).1 nw (Q (2 * 0 + 1)).1 = R at a1 a2 a3 F ⊢
  -- the court is as it was
  have r1 : ∀ k, k ≠ 12 → k ≠ 13 → R.1.1 k = s.1 k := fun k h12 h13 => (F.1 k h13).trans (by show upd (upd s.1 12 (nI j)) 13 0 k = _; rw [pk_un h13, pk_un h12])
  have r2 : ∀ k, k ≠ 14 → R.1.2.1 k = s.2.1 k := fun k h14 => F.2 k h14
  rcases bp_wf hT 101 0 (Nat.zero_le _) (by omega) with ⟨w1, w2⟩ | ⟨w1, w2, w3⟩
  · refine Or.inr ⟨by rw [w2]; decide, a1.trans w1, ?_⟩
    have S1 : ∀ k, k ≠ 12 → k ≠ 13 → (mu1 (kpS 17 R.1) 13 0).1 k = s.1 k := fun k h12 h13 => (show upd (kpS 17 R.1).1 13 0 k = _ by rw [pk_un h13, kp_1]; exact r1 k h12 h13)
    have S2 : ∀ k, k ≠ 14 → k ≠ 17 → (mu1 (kpS 17 R.1) 13 0).2.1 k = s.2.1 k := fun k h14 h17 => (kp_2 h17 R.1).trans (r2 k h14)
    have S17 : (mu1 (kpS 17 R.1) 13 0).2.1 17 = (kpS 17 R.1).2.1 17 := rfl
    have I0 := enB_I h.1 (rs_w h) (rs_w5 h)
    obtain ⟨v1, v2, v3, v4, v5, v6⟩ := be_v (t := 2) (u := 0) (n0 := (Q (2 * 0)).1) (n1 := (Q (2 * 0 + 1)).1) (p := (c, D)) (by decide) (by decide) (by decide)
    obtain ⟨b0, b1, b2⟩ := beQ_t (t := 2) (u := 0) (Q := Q) (by decide)
    have T0 : T2 (enB c D Q).1 (beQ 2 0 Q) nw (mu1 (kpS 17 R.1) 13 0) := by
      unfold T2
      rw [b0, b1]
      exact TR_cg h.2.1 v2 v3 v5 (S1 1 (by decide) (by decide)) (S1 3 (by decide) (by decide)) (S1 5 (by decide) (by decide)) (S1 0 (by decide) (by decide)) (fun i _ => by rw [S2 2 (by decide) (by decide)]) (fun i _ => by rw [S2 4 (by decide) (by decide)]) (fun i _ => by rw [S2 6 (by decide) (by decide)]) (fun i _ => by rw [S2 7 (by decide) (by decide)])
    have go := p2_en hj e8 101 27 0 0 (enB c D Q) (beQ 2 0 Q) nw (mu1 (kpS 17 R.1) 13 0) (by omega) (by omega) (Nat.zero_le _) I0 T0 (pI_k a3) rfl (fun i hi => by
      rw [hT.2.2.1 i hi]
      exact congrFun (S2 11 (by decide) (by decide)) _) (fun _ => ⟨101, by rw [w2]; decide, by decide⟩)
    unfold enaP enZ
    have q4 : ∀ l, l < 4 → beQ 2 0 Q l = Q l := fun l hl => b2 l (by omega) (by omega)
    rcases go with ⟨s', p', K, Q', nw', i1, i2, i3, i4, i5, i6⟩ | ⟨r', b', p', Q', nw', i1, i2, i3, i4, i5⟩
    · rw [i1, i2]
      refine ⟨rfl, beQ 0 2 Q', nw', ?_⟩
      rw [if_pos rfl]
      show RS (enF p').1 (enF p').2 (beQ 0 2 Q') nw' s'
      rw [← enF_e i3.1]
      obtain ⟨x1, x2, x3, x4, x5, x6⟩ := be_v (t := 0) (u := 2) (n0 := (Q' (2 * 2)).1) (n1 := (Q' (2 * 2 + 1)).1) (p := (p'.1, p'.2)) (by decide) (by decide) (by decide)
      have hG := be_G i3.1 (t := 0) (u := 2) (by decide) (by decide) (by decide)
      obtain ⟨y0, y1, y2⟩ := beQ_t (t := 0) (u := 2) (Q := Q') (by decide)
      have fT := i3.2.1
      generalize beP 0 2 (Q' (2 * 2)).1 (Q' (2 * 2 + 1)).1 (p'.1, p'.2) = z at x1 x2 x3 x4 x5 x6 hG ⊢
      dsimp only at x1 x2 x3 x4 x5 x6 hG
      have M1 : ∀ k, k ≠ 0 → k ≠ 1 → k ≠ 3 → k ≠ 5 → k ≠ 12 → k ≠ 13 → s'.1 k = s.1 k := fun k h0 h1 h3 h5 h12 h13 => (i5.1 k h0 h1 h3 h5 h13).trans (S1 k h12 h13)
      have M2 : ∀ k, k ≠ 2 → k ≠ 4 → k ≠ 6 → k ≠ 7 → k ≠ 14 → k ≠ 17 → s'.2.1 k = s.2.1 k := fun k h2 h4 h6 h7 h14 h17 => (i5.2 k h2 h4 h6 h7 h14).trans (S2 k h14 h17)
      refine ⟨hG, ?_, ?_, fun d hd => ?_, fun d hd => ?_⟩
      · unfold TR0
        rw [y0, y1]
        exact TR_cg i4 x2 x3 x5 rfl rfl rfl rfl (fun _ _ => rfl) (fun _ _ => rfl) (fun _ _ => rfl) (fun _ _ => rfl)
      · have := IR_q (Q2 := beQ 0 2 Q') (t := s') ((y2 2 (by decide) (by decide)).trans ((i6 2 (by decide)).trans (q4 2 (by decide)))) ((y2 3 (by decide) (by decide)).trans ((i6 3 (by decide)).trans (q4 3 (by decide)))) (M1 15 (by decide) (by decide) (by decide) (by decide) (by decide) (by decide)) (M2 16 (by decide) (by decide) (by decide) (by decide) (by decide) (by decide)) (IR_fr fT h.2.2.1)
        unfold IR TR1 at this ⊢
        rw [x1 0 (by decide) (by decide) (by decide), x1 (10 + 1) (by decide) (by decide) (by decide), x1 (20 + 1) (by decide) (by decide) (by decide), x4 1 (by decide)]
        exact this
      · refine SR_o (SR_fr hd fT (rs_sr h hd)) (x1 _ (by omega) (by omega) (by omega)) (x1 _ (by omega) (by omega) (by omega)) (x1 _ (by omega) (by omega) (by omega)) (x1 _ (by omega) (by omega) (by omega)) (x4 _ (by omega)) (x6 _ (by omega)) ?_ ?_ ?_ (fun i hi => ?_)
        · rw [M2 8 (by decide) (by decide) (by decide) (by decide) (by decide) (by decide)]
        · rw [M2 9 (by decide) (by decide) (by decide) (by decide) (by decide) (by decide)]
        · rw [M2 10 (by decide) (by decide) (by decide) (by decide) (by decide) (by decide)]
        · rw [M2 11 (by decide) (by decide) (by decide) (by decide) (by decide) (by decide)]
      · obtain ⟨x, hx, w⟩ := KR_fr fT h.2.2.2.2 d hd
        exact ⟨x, hx, (x6 _ (by omega)).trans w⟩
    · rw [i1, i2]
      refine ⟨rfl, Q', nw, ?_⟩
      rw [if_neg (show ¬ (p', -2000 - nI b', false).2.2 = true from by intro z; cases z)]
      show RS p'.1 p'.2 Q' nw (agS 17 r')
      have fT := i3.2.1
      obtain ⟨k1, k2, k3, k4, k5, k6, k7⟩ := kp_v (k := 17) (by decide) R.1
      obtain ⟨g0, g1, g2, g3, g4, g5, g6, g7, g8⟩ := ag_v (k := 17) (by decide) r'
      have f17 : r'.2.1 17 = (kpS 17 R.1).2.1 17 := (i4.2 17 (by decide) (by decide) (by decide) (by decide) (by decide)).trans S17
      rw [f17] at g1 g2 g3 g4 g5 g6 g7
      have M2 : ∀ k, k ≠ 2 → k ≠ 4 → k ≠ 6 → k ≠ 7 → k ≠ 14 → k ≠ 17 → (agS 17 r').2.1 k = s.2.1 k := fun k h2 h4 h6 h7 h14 h17 => (g0 k h2 h4 h6 h7).trans ((i4.2 k h2 h4 h6 h7 h14).trans (S2 k h14 h17))
      refine ⟨i3.1, TR0_fr fT ?_, IR_fr fT ?_, fun d hd => SR_fr hd fT ?_, KR_fr fT h.2.2.2.2⟩
      · unfold TR0
        rw [(i5 (2 * 0) (by decide)).trans (q4 _ (by decide)), (i5 (2 * 0 + 1) (by decide)).trans (q4 _ (by decide))]
        exact TR_cg h.2.1 rfl rfl (fun _ _ => rfl) (g4.trans (k4.trans (r1 1 (by decide) (by decide)))) (g5.trans (k5.trans (r1 3 (by decide) (by decide)))) (g6.trans (k6.trans (r1 5 (by decide) (by decide)))) (g7.trans (k7.trans (r1 0 (by decide) (by decide))))
          (fun i hi => (g1 i hi).trans ((k1 i hi).trans (congrFun (r2 2 (by decide)) i))) (fun i hi => (g2 i hi).trans ((k2 i hi).trans (congrFun (r2 4 (by decide)) i))) (fun i hi => (g3 i hi).1.trans ((k3 i hi).1.trans (congrFun (r2 6 (by decide)) i))) (fun i hi => (g3 i hi).2.trans ((k3 i hi).2.trans (congrFun (r2 7 (by decide)) i)))
      · exact IR_q ((i5 2 (by decide)).trans (q4 2 (by decide))) ((i5 3 (by decide)).trans (q4 3 (by decide))) ((g8 15 (by decide) (by decide) (by decide) (by decide)).trans ((i4.1 15 (by decide) (by decide) (by decide) (by decide) (by decide)).trans (S1 15 (by decide) (by decide)))) (M2 16 (by decide) (by decide) (by decide) (by decide) (by decide) (by decide)) h.2.2.1
      · refine SR_s (rs_sr h hd) ?_ ?_ ?_ (fun i hi => ?_)
        · rw [M2 8 (by decide) (by decide) (by decide) (by decide) (by decide) (by decide)]
        · rw [M2 9 (by decide) (by decide) (by decide) (by decide) (by decide) (by decide)]
        · rw [M2 10 (by decide) (by decide) (by decide) (by decide) (by decide) (by decide)]
        · rw [M2 11 (by decide) (by decide) (by decide) (by decide) (by decide) (by decide)]
  · refine Or.inl ⟨_, w2, by omega, a1.trans w1, ?_, ?_⟩
    · rw [a3.2.2.1, a2]
    · exact RS_s h (r1 0 (by decide) (by decide)) (r1 1 (by decide) (by decide)) (r1 3 (by decide) (by decide)) (r1 5 (by decide) (by decide)) (r1 15 (by decide) (by decide)) (fun i _ => by rw [r2 2 (by decide)]) (fun i _ => by rw [r2 4 (by decide)]) (fun i _ => by rw [r2 6 (by decide)]) (fun i _ => by rw [r2 7 (by decide)]) (r2 8 (by decide)) (r2 9 (by decide)) (r2 10 (by decide)) (r2 11 (by decide)) (r2 16 (by decide))
theorem tr_h (h : RS c D Q nw s) {j : Nat} (hj : j < 8) : (c.1 (50 + j) = 2 ∧ s.2.1 8 j = 2 ∧ rfU c j 2 = 0 ∧ (c.1 (70 + j) = 0 ↔ s.2.1 9 j = 0)) ∨ (¬ rfU c j 2 = 0 ∧ ((s.2.1 8 j = 0 ∧ rfU c j 2 = -11) ∨ (¬ s.2.1 8 j = 0 ∧ ¬ s.2.1 8 j = 2 ∧ rfU c j 2 = -12))) := by
  unfold rfU
  rcases rs_sr h hj with ⟨a, b⟩ | ⟨a, b, -⟩ | ⟨a, b, o, n, ho, hn, e7, m9, -⟩
  · rw [a, b]; exact Or.inr (by decide)
  · rw [a, b]; exact Or.inr (by decide)
  · rw [a, b, e7, m9]; exact Or.inl ⟨rfl, rfl, if_pos rfl, Iff.rfl⟩
theorem eq_trial (h : RS c D Q nw s) {a : Int32} : trlR c D Q a = trM s (Q (2 * 0)).1 nw (Q (2 * 0 + 1)).1 a := by
  unfold trlR trM
  refine if_cg fun q => ?_
  obtain ⟨j, hj, rfl⟩ := iw8 q
  rw [tn_nI (by omega)]
  rcases tr_h h hj with ⟨x1, x2, x3, x4⟩ | ⟨y, ⟨z1, z2⟩ | ⟨z1, z2, z3⟩⟩
  · rw [if_pos x3, if_neg (show ¬ s.2.1 8 j = 0 by rw [x2]; decide), if_pos x2]
    refine ite_x x4 (fun _ => ?_) fun _ => rfl
    rcases tr_all h hj x1 with ⟨q, w1, w2, w3, w4, -⟩ | ⟨w1, w2, w3, -⟩
    · rw [w1, if_neg (nI_pos (by omega)), w3, if_neg (by decide), w4]
    · rw [if_pos w1, w2, if_pos rfl, w3]
  · rw [if_neg y, if_pos z1, z2]
  · rw [if_neg y, if_neg z1, if_neg z2, z3]
theorem rs_trial (h : RS c D Q nw s) {a : Int32} : ∃ Q2 nw2, RS (trlP c D Q a).1 (trlP c D Q a).2 Q2 nw2 (trS s (Q (2 * 0)).1 nw (Q (2 * 0 + 1)).1 a) := by
  unfold trlP trS
  by_cases q : iw a 0 7 = true
  · rw [if_pos q, if_pos q]
    obtain ⟨j, hj, rfl⟩ := iw8 q
    rw [tn_nI (by omega)]
    rcases tr_h h hj with ⟨x1, x2, x3, x4⟩ | ⟨y, ⟨z1, z2⟩ | ⟨z1, z2, z3⟩⟩
    · rw [if_pos x3, if_neg (show ¬ s.2.1 8 j = 0 by rw [x2]; decide), if_pos x2]
      by_cases z : s.2.1 9 j = 0
      · rw [if_pos (x4.mpr z), if_pos z]
        rcases tr_all h hj x1 with ⟨q, w1, w2, w3, w4, w5⟩ | ⟨w1, w2, w3, w4⟩
        · rw [w1, if_neg (nI_pos (by omega)), w3, if_neg (by decide)]
          exact ⟨Q, nw, w5⟩
        · rw [if_pos w1, w2, if_pos rfl]
          exact w4
      · rw [if_neg (fun y => z (x4.mp y)), if_neg z]; exact ⟨Q, nw, h⟩
    · rw [if_neg y, if_pos z1]; exact ⟨Q, nw, h⟩
    · rw [if_neg y, if_neg z1, if_neg z2]; exact ⟨Q, nw, h⟩
  · rw [if_neg q, if_neg q]; exact ⟨Q, nw, h⟩
end
