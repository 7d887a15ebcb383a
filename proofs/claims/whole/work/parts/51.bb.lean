/-! trials by seeds -/
theorem sd_n (x : Int32) : ∃ e, e < 32768 ∧ sdV x 8 = nI (e % 8) ∧ sdV x 10 = nI (e % 10) ∧ sdV x 6 = nI (e % 6) := by
  obtain ⟨k, hk, e⟩ := pk_andE x (m := 2147483647) 31 (by decide)
  have e2 : (x &&& 2147483647) / 65536 = nI (k / 65536) := by rw [e]; exact pk_div (d := 65536) hk (by decide) (by decide)
  refine ⟨k / 65536, by omega, ?_, ?_, ?_⟩
  · unfold sdV; rw [e2]; exact pk_rem (d := 8) (by omega) (by decide) (by decide)
  · unfold sdV; rw [e2]; exact pk_rem (d := 10) (by omega) (by decide) (by decide)
  · unfold sdV; rw [e2]; exact pk_rem (d := 6) (by omega) (by decide) (by decide)
theorem dr8 (x : Int32) : drB 8 x = sdV x 8 := if_pos (by decide)
theorem dr10 (x : Int32) : drB 10 x = sdV x 10 := if_pos (by decide)
theorem dr6 (x : Int32) : drB 6 x = sdV x 6 := if_pos (by decide)
def sdC (z : Int32) : Int32 := made (sdV (nxS z) 8) (sdV (nxS (nxS z)) 10) (sdV (nxS (nxS (nxS z))) 6) (sdV (nxS (nxS (nxS (nxS z)))) 6)
theorem wd_y (z : Int32) : ∃ y : SY, VY y ∧ wdC z = wY y ∧ sdC z = codeY y := by
  obtain ⟨a, ha, a1, -, -⟩ := sd_n (nxS z)
  obtain ⟨b, hb, -, b1, -⟩ := sd_n (nxS (nxS z))
  obtain ⟨d, hd, -, -, d1⟩ := sd_n (nxS (nxS (nxS z)))
  obtain ⟨f, hf, -, -, f1⟩ := sd_n (nxS (nxS (nxS (nxS z))))
  refine ⟨(0, a % 8, b % 10, d % 6, f % 6), ⟨by dsimp only; omega, by dsimp only; omega, by dsimp only; omega, by dsimp only; omega⟩, ?_, ?_⟩
  · unfold wdC
    rw [dr8, dr10, dr6, dr6, a1, b1, d1, f1, tn_nI (by omega)]; rfl
  · unfold sdC
    rw [a1, b1, d1, f1]; rfl
/-- what a trial of seeds leaves as it was -/
def SF (s r : MS) : Prop := (∀ k, k ≠ 5 → r.1 k = s.1 k) ∧ ∀ k, k ≠ 6 → k ≠ 7 → k ≠ 14 → r.2.1 k = s.2.1 k
def sd4 (r : MS) (z : Int32) : MS := mu2 (mu2 (mu2 (mu2 r 14 0 (sdV (nxS z) 8)) 14 1 (sdV (nxS (nxS z)) 10)) 14 2 (sdV (nxS (nxS (nxS z))) 6)) 14 3 (sdV (nxS (nxS (nxS (nxS z)))) 6)
theorem sd4_e (r : MS) (z : Int32) : acc sdF (r, z) 4 = (sd4 r z, nxS (nxS (nxS (nxS z)))) := rfl
theorem sw1_e (r : MS) (z : Int32) (w : Nat) : sw1 (sd4 r z) w = mu2 (mu2 (sd4 r z) 7 w (nI w)) 6 w (sdC z) := by
  have e : rsI (mu2 (sd4 r z) 7 w (nI w)) 0 = sdC z := by
    unfold rsI sdC
    rw [mu2_n (by decide)]
    unfold sd4
    rw [mu2_v, mu2_v, mu2_v, mu2_v, mu2_v, mu2_v, mu2_v, mu2_v, mu2_v, mu2_v, mu2_v, mu2_v, mu2_v, mu2_v, mu2_v, mu2_v]
    rfl
  show mu2 (mu2 (sd4 r z) 7 w (nI w)) 6 w (rsI (mu2 (sd4 r z) 7 w (nI w)) 0) = _
  rw [e]
theorem sw1_f (r : MS) (z : Int32) (w : Nat) : (sw1 (sd4 r z) w).1 = r.1 ∧ (∀ k, k ≠ 6 → k ≠ 7 → k ≠ 14 → (sw1 (sd4 r z) w).2.1 k = r.2.1 k) ∧ ∀ j, (sw1 (sd4 r z) w).2.1 6 j = if j = w then sdC z else r.2.1 6 j := by
  rw [sw1_e]
  refine ⟨rfl, fun k h6 h7 h14 => ?_, fun j => ?_⟩
  · rw [mu2_n h6, mu2_n h7]
    unfold sd4
    rw [mu2_n h14, mu2_n h14, mu2_n h14, mu2_n h14]
  · rw [mu2_v, mu2_n (by decide)]
    unfold sd4
    rw [mu2_n (by decide), mu2_n (by decide), mu2_n (by decide), mu2_n (by decide)]
def loT (s : MS) (j : Nat) (b : Int64) : Int64 := b &&& (worldsN (s.2.1 6 j) 64 ^^^ (-1))
theorem sw_run {s : MS} {t : Nat} (ht : t < 64) (e0 : s.1 0 = nI t) (mb : Int64) {r : MS} (hr : SF s r) (h5 : r.1 5 = nI 0) (z n : Int32) (nw : Nat) :
    SF s (acc swF (r, z, n) nw).1 ∧ (acc swF (r, z, n) nw).1.1 5 = nI nw ∧ (acc swF (r, z, n) nw).2.1 = (acc (sgG (nI t)) (z, n, mb) nw).1 ∧ (acc swF (r, z, n) nw).2.2 = (acc (sgG (nI t)) (z, n, mb) nw).2.1 ∧
    (acc (sgG (nI t)) (z, n, mb) nw).2.2 = acc (loT (acc swF (r, z, n) nw).1) mb nw := by
  refine accR (P := fun (w : Nat) (q : MS × Int32 × Int32) (p : Int32 × Int32 × Int64) => SF s q.1 ∧ q.1.1 5 = nI w ∧ q.2.1 = p.1 ∧ q.2.2 = p.2.1 ∧ p.2.2 = acc (loT q.1) mb w) ⟨hr, h5, rfl, rfl, rfl⟩ ?_
  rintro w hw ⟨r, z, n⟩ ⟨z2, n2, L⟩ ⟨⟨f1, f2⟩, g5, gz, gn, gL⟩
  dsimp only at f1 f2 g5 gz gn gL ⊢
  subst gz gn
  obtain ⟨y, hy, y1, y2⟩ := wd_y z
  obtain ⟨k1, k2, k3⟩ := sw1_f r z w
  have E : swF w (r, z, n) = (mu1 (sw1 (sd4 r z) w) 5 ((sw1 (sd4 r z) w).1 5 + 1), nxS (nxS (nxS (nxS z))), if isTB ((sw1 (sd4 r z) w).2.1 6 w) ((sw1 (sd4 r z) w).1 0) = true then n + 1 else n) := rfl
  rw [E, k1, k3, if_pos rfl, f1 0 (by decide), e0, y2, wY_T hy ht, ← y1]
  have hk : ∀ j, (mu1 (sw1 (sd4 r z) w) 5 (r.1 5 + 1)).2.1 6 j = if j = w then sdC z else r.2.1 6 j := k3
  refine ⟨⟨fun k hk => ?_, fun k h6 h7 h14 => (k2 k h6 h7 h14).trans (f2 k h6 h7 h14)⟩, ?_, rfl, ?_, ?_⟩
  · exact (show (mu1 (sw1 (sd4 r z) w) 5 (r.1 5 + 1)).1 k = (sw1 (sd4 r z) w).1 k from if_neg hk).trans ((congrFun k1 k).trans (f1 k hk))
  · exact (show (mu1 (sw1 (sd4 r z) w) 5 (r.1 5 + 1)).1 5 = r.1 5 + 1 from rfl).trans ((congrArg (fun x => x + 1) g5).trans (nI_1 w))
  · show (if hwB (wdC z) (nI t) = true then n + 1 else n) = n + bi (hwB (wdC z) (nI t))
    cases hwB (wdC z) (nI t)
    · exact (Int32.add_zero n).symm
    · rfl
  · show L &&& (wdC z ^^^ (-1)) = loT _ w (acc (loT _) mb w)
    have : acc (loT (mu1 (sw1 (sd4 r z) w) 5 (r.1 5 + 1))) mb w = L := by
      rw [gL]
      exact acc_cg rfl fun i hi b => by
        unfold loT
        rw [hk, if_neg (by omega)]
    rw [this]
    unfold loT
    rw [hk, if_pos rfl, y2, wY_N hy, y1]
theorem leftA_lo {s r : MS} {nl nw : Nat} (hr : SF s r) (h5 : r.1 5 = nI nw) (hn : nw ≤ 5) : leftA r nl nw = acc (loT r) (mayBeI s nl) nw := by
  unfold leftA leftI
  refine acc_cg (acc_cg rfl fun i hi b => ?_) fun i hi b => ?_
  · unfold mbF
    rw [hr.2 2 (by decide) (by decide) (by decide)]
  · unfold lbF loT
    rw [h5, hasB_b _ (by omega), sub1_b nw (by omega) i hi, if_pos rfl]
theorem so_run {s : MS} {t : Nat} (ht : t < 64) (e0 : s.1 0 = nI t) {nl nw : Nat} (hn : nw ≤ 5) (z : Int32) (n : Nat) :
    SF (kpS 17 s) (acc (soF nl nw) (sdZ s z) n).1 ∧ (acc (soF nl nw) (sdZ s z) n).2.1 = (acc (sgO (nI t) (mayBeI s nl) nw) (z, 0, 0) n).1 ∧ (acc (soF nl nw) (sdZ s z) n).2.2.1 = (acc (sgO (nI t) (mayBeI s nl) nw) (z, 0, 0) n).2.1 ∧ (acc (soF nl nw) (sdZ s z) n).2.2.2 = (acc (sgO (nI t) (mayBeI s nl) nw) (z, 0, 0) n).2.2 := by
  refine accR (P := fun (w : Nat) (q : MS × Int32 × Int32 × Int32) (p : Int32 × Int32 × Int32) => SF (kpS 17 s) q.1 ∧ q.2.1 = p.1 ∧ q.2.2.1 = p.2.1 ∧ q.2.2.2 = p.2.2) ⟨⟨fun _ _ => rfl, fun _ _ _ _ => rfl⟩, rfl, rfl, rfl⟩ ?_
  rintro w hw ⟨r, z, n, tot⟩ ⟨z2, n2, tot2⟩ ⟨⟨f1, f2⟩, gz, gn, gt⟩
  dsimp only at f1 f2 gz gn gt
  subst gz gn gt
  have hm : mayBeI (kpS 17 s) nl = mayBeI s nl := acc_cg rfl fun i hi b => by
    unfold mbF
    rw [kp_2 (by decide)]
  have hSF : SF (kpS 17 s) (mu1 r 5 0) := ⟨fun k hk => (if_neg hk).trans (f1 k hk), f2⟩
  obtain ⟨a1, a2, a3, a4, a5⟩ := sw_run ht (show (kpS 17 s).1 0 = nI t by rw [kp_1]; exact e0) (mayBeI s nl) hSF (show (mu1 r 5 0).1 5 = nI 0 from rfl) z n nw
  refine ⟨a1, a3, a4, ?_⟩
  show tot + lbc (leftA (acc swF (mu1 r 5 0, z, n) nw).1 nl nw) = tot + lbc (acc (sgG (nI t)) (z, n, mayBeI s nl) nw).2.2
  rw [leftA_lo a1 a2 hn, a5, hm]
section
variable {c : CS} {D : List ab_E} {Q : QT} {nw : Nat} {s : MS}
theorem eq_seeds (h : RS c D Q nw s) {a b d : Int32} : sedC (c.1 (20 + 0)) (mbT (Q (2 * 0)).2 (Q (2 * 0)).1) nw a b d = seM s (Q (2 * 0)).1 nw a b d := by
  obtain ⟨t, ht, e⟩ := rs_tt h
  obtain ⟨-, -, a3, a4⟩ := so_run ht e (nl := (Q (2 * 0)).1) (rs_w5 h) b (tn a)
  unfold sedC seM
  rw [eo_iw, rs_t h, e, a3, a4, mb_eq h]
theorem rs_seeds (h : RS c D Q nw s) {a b d : Int32} : ∃ Q2 nw2, RS c D Q2 nw2 (seS s (Q (2 * 0)).1 nw a b d) := by
  refine ⟨Q, nw, ?_⟩
  unfold seS
  split
  · split
    · obtain ⟨t, ht, e⟩ := rs_tt h
      obtain ⟨⟨f1, f2⟩, -⟩ := so_run ht e (nl := (Q (2 * 0)).1) (rs_w5 h) b (tn a)
      generalize (acc (soF (Q (2 * 0)).1 nw) (sdZ s b) (tn a)).1 = r at f1 f2
      obtain ⟨k1, k2, k3, k4, k5, k6, k7⟩ := kp_v (k := 17) (by decide) s
      obtain ⟨g0, g1, g2, g3, g4, g5, g6, g7, g8⟩ := ag_v (k := 17) (by decide) r
      have f17 := f2 17 (by decide) (by decide) (by decide)
      rw [f17] at g1 g2 g3 g4 g5 g6 g7
      have fo : ∀ j, j ≠ 2 → j ≠ 4 → j ≠ 6 → j ≠ 7 → j ≠ 14 → j ≠ 17 → (agS 17 r).2.1 j = s.2.1 j := fun j h2 h4 h6 h7 h14 h17 => ((g0 j h2 h4 h6 h7).trans (f2 j h6 h7 h14)).trans (kp_2 h17 s)
      exact RS_s h (g7.trans k7) (g4.trans k4) (g5.trans k5) (g6.trans k6) (((g8 15 (by decide) (by decide) (by decide) (by decide)).trans (f1 15 (by decide))).trans (congrFun (kp_1 17 s) 15))
        (fun i hi => (g1 i hi).trans (k1 i hi)) (fun i hi => (g2 i hi).trans (k2 i hi)) (fun i hi => (g3 i hi).1.trans (k3 i hi).1) (fun i hi => (g3 i hi).2.trans (k3 i hi).2)
        (fo 8 (by decide) (by decide) (by decide) (by decide) (by decide) (by decide)) (fo 9 (by decide) (by decide) (by decide) (by decide) (by decide) (by decide)) (fo 10 (by decide) (by decide) (by decide) (by decide) (by decide) (by decide)) (fo 11 (by decide) (by decide) (by decide) (by decide) (by decide) (by decide)) (fo 16 (by decide) (by decide) (by decide) (by decide) (by decide) (by decide))
    · exact h
  · exact h
end
