/-! what changes the two states alike -/
/-- but the lists' cells all is as it was -/
def frS (c e : CS) : Prop := (∀ k, (k < 30 ∨ 46 ≤ k) → e.1 k = c.1 k) ∧ (∀ k, e.2.1 k = c.2.1 k) ∧ ∀ k, 6 ≤ k → e.2.2.2 k = c.2.2.2 k
theorem fs_rf (c : CS) : frS c c := ⟨fun _ _ => rfl, fun _ => rfl, fun _ _ => rfl⟩
theorem fs_tr {a b c : CS} (h : frS a b) (k : frS b c) : frS a c := ⟨fun i h1 => (k.1 i h1).trans (h.1 i h1), fun i => (k.2.1 i).trans (h.2.1 i), fun i h1 => (k.2.2 i h1).trans (h.2.2 i h1)⟩
theorem fs_setL {c : CS} {l : Nat} {m n : Int32} {v : Value} (hl : l < 6) : frS c (setL c l m n v) := by
  refine ⟨fun k h => ?_, fun _ => rfl, fun k h => if_neg (by omega)⟩
  show upd (upd c.1 (40 + l) m) (30 + l) n k = _
  rw [pk_un (by omega), pk_un (by omega)]
theorem fs_ad {l r : Nat} {p : CD} (hl : l < 6) : frS p.1 (adP l r p).1 := by
  unfold adP
  split
  · exact fs_setL hl
  · exact fs_setL hl
theorem fs_cl {l : Nat} {p : CD} (hl : l < 6) : frS p.1 (clP l p).1 := by
  unfold clP
  split
  · exact fs_setL hl
  · exact fs_setL hl
theorem fs_rm {l : Nat} {p : CD} (hl : l < 6) : frS p.1 (rmP l p).1 := by
  unfold rmP
  split
  · exact fs_setL hl
  · exact fs_rf _
theorem fs_acc {l k : Nat} {p : CD} (hl : l < 6) : ∀ i, frS p.1 (acc (adS l k) p i).1
  | 0 => fs_rf _
  | i + 1 => fs_tr (fs_acc hl i) (fs_ad hl)
theorem fs_be2 {t u n0 n1 : Nat} {p : CD} (ht : t < 3) : frS p.1 (be2 t u n0 n1 p).1 := fs_tr (fs_tr (fs_cl (by omega)) (fs_acc (by omega) n0)) (fs_tr (fs_cl (by omega)) (fs_acc (by omega) n1))
theorem kw_v (t u : Nat) (hne : t ≠ u) (c : CS) : ∀ n, (acc (kwF t u) c n).1 = c.1 ∧ (∀ k, k ≠ t → (acc (kwF t u) c n).2.1 k = c.2.1 k) ∧ ∀ w, w < n → (acc (kwF t u) c n).2.1 t w = c.2.1 u w
  | 0 => ⟨rfl, fun _ _ => rfl, fun w hw => absurd hw (by omega)⟩
  | n + 1 => by
    obtain ⟨a, b, d⟩ := kw_v t u hne c n
    rw [acc_s]
    refine ⟨a, fun k hk => (if_neg hk).trans (b k hk), fun w hw => ?_⟩
    show (if t = t then upd ((acc (kwF t u) c n).2.1 t) n ((acc (kwF t u) c n).2.1 u n) else _) w = _
    rw [if_pos rfl, b u (fun e => hne e.symm)]
    by_cases e : w = n
    · subst e; exact if_pos rfl
    · exact (if_neg e).trans (d w (by omega))
/-- one trial becomes another -/
theorem be_v {t u n0 n1 : Nat} {p : CD} (ht : t < 3) (hu : u < 3) (hne : t ≠ u) : (∀ k, k ≠ 10 + t → k ≠ 20 + t → (k < 30 ∨ 46 ≤ k) → (beP t u n0 n1 p).1.1 k = p.1.1 k) ∧ (beP t u n0 n1 p).1.1 (10 + t) = p.1.1 (10 + u) ∧ (beP t u n0 n1 p).1.1 (20 + t) = p.1.1 (20 + u) ∧
    (∀ k, k ≠ t → (beP t u n0 n1 p).1.2.1 k = p.1.2.1 k) ∧ (∀ w, w < 5 → (beP t u n0 n1 p).1.2.1 t w = p.1.2.1 u w) ∧ ∀ k, 6 ≤ k → (beP t u n0 n1 p).1.2.2.2 k = p.1.2.2.2 k := by
  obtain ⟨f1, f2, f3⟩ := fs_be2 (t := t) (u := u) (n0 := n0) (n1 := n1) (p := p) ht
  show (∀ k, k ≠ 10 + t → k ≠ 20 + t → (k < 30 ∨ 46 ≤ k) → (beC t u (be2 t u n0 n1 p).1).1 k = p.1.1 k) ∧ (beC t u (be2 t u n0 n1 p).1).1 (10 + t) = p.1.1 (10 + u) ∧ (beC t u (be2 t u n0 n1 p).1).1 (20 + t) = p.1.1 (20 + u) ∧
    (∀ k, k ≠ t → (beC t u (be2 t u n0 n1 p).1).2.1 k = p.1.2.1 k) ∧ (∀ w, w < 5 → (beC t u (be2 t u n0 n1 p).1).2.1 t w = p.1.2.1 u w) ∧ ∀ k, 6 ≤ k → (beC t u (be2 t u n0 n1 p).1).2.2.2 k = p.1.2.2.2 k
  generalize (be2 t u n0 n1 p).1 = c at f1 f2 f3 ⊢
  obtain ⟨g1, g2, g3⟩ := kw_v t u hne c 5
  refine ⟨fun k h1 h2 h3 => (beC_1 h1 h2).trans (f1 k h3), ?_, ?_, fun k hk => (g2 k hk).trans (f2 k), fun w hw => (g3 w hw).trans (congrFun (f2 u) w), fun k hk => beC_4.trans (f3 k hk)⟩
  · unfold beC
    show upd (upd _ (10 + t) _) (20 + t) _ (10 + t) = _
    rw [pk_un (by omega), pk_us, g1, f1 _ (by omega)]
  · unfold beC
    show upd (upd _ (10 + t) _) (20 + t) (upd _ (10 + t) _ (20 + u)) (20 + t) = _
    rw [pk_us, pk_un (by omega), g1, f1 _ (by omega)]
theorem fr_fs {c e : CS} (h : frS c e) : frT c e := ⟨fun k _ _ h3 => h.1 k h3, fun k _ => h.2.1 k, h.2.2⟩
theorem SR_fr {c e : CS} {s : MS} {d : Nat} (hd : d < 8) (f : frT c e) (h : SR c s d) : SR e s d := by
  unfold SR
  rw [f.1 (50 + d) (by omega) (by omega) (by omega), f.1 (60 + d) (by omega) (by omega) (by omega), f.1 (70 + d) (by omega) (by omega) (by omega), f.1 (80 + d) (by omega) (by omega) (by omega), f.2.1 (10 + d) (by omega), f.2.2 (10 + d) (by omega)]
  exact h
theorem KR_fr {c e : CS} (f : frT c e) (h : KR c) : KR e := fun d hd => by
  obtain ⟨k, hk, z⟩ := h d hd
  exact ⟨k, hk, (f.2.2 (10 + d) (by omega)).trans z⟩
theorem TR0_fr {c e : CS} {Q : QT} {nw : Nat} {s : MS} (f : frT c e) (h : TR0 c Q nw s) : TR0 e Q nw s := by
  unfold TR0
  rw [f.1 (10 + 0) (by omega) (by omega) (by omega), f.1 (20 + 0) (by omega) (by omega) (by omega), f.2.1 0 (by omega)]
  exact h
theorem TR1_fr {c e : CS} {Q : QT} {nw : Nat} {s : MS} (f : frT c e) (h : TR1 c Q nw s) : TR1 e Q nw s := by
  unfold TR1
  rw [f.1 (10 + 1) (by omega) (by omega) (by omega), f.1 (20 + 1) (by omega) (by omega) (by omega), f.2.1 1 (by omega)]
  exact h
theorem IR_fr {c e : CS} {Q : QT} {s : MS} (f : frT c e) (h : IR c Q s) : IR e Q s := by
  have e0 := f.1 0 (by omega) (by omega) (by omega)
  rcases h with ⟨a, b⟩ | ⟨a, b, nw, d⟩
  · exact Or.inl ⟨e0.trans a, b⟩
  · exact Or.inr ⟨e0.trans a, b, nw, TR1_fr f d⟩
theorem IR_q {c : CS} {Q Q2 : QT} {s t : MS} (h2 : Q2 2 = Q 2) (h3 : Q2 3 = Q 3) (h15 : t.1 15 = s.1 15) (h16 : t.2.1 16 = s.2.1 16) (h : IR c Q s) : IR c Q2 t := by
  rcases h with ⟨a, b⟩ | ⟨a, b, nw, d⟩
  · exact Or.inl ⟨a, h15.trans b⟩
  · refine Or.inr ⟨a, h15.trans b, nw, TR1_s ?_ h16⟩
    unfold TR1 at d ⊢
    rw [show Q2 (2 * 1) = Q (2 * 1) from h2, show Q2 (2 * 1 + 1) = Q (2 * 1 + 1) from h3]
    exact d
/-- a shelf changes -/
theorem RS_sh {c e : CS} {D : List ab_E} {Q : QT} {nw : Nat} {s t : MS} (h : RS c D Q nw s) (d : Nat) (a1 : ∀ k, k < 50 → e.1 k = c.1 k) (a2 : ∀ k, k < 10 → e.2.1 k = c.2.1 k) (a4 : ∀ k, k < 10 → e.2.2.2 k = c.2.2.2 k) (b1 : t.1 = s.1) (b2 : ∀ j, j ≠ 8 → j ≠ 9 → j ≠ 10 → j ≠ 11 → t.2.1 j = s.2.1 j)
    (o : ∀ k, k < 8 → k ≠ d → SR e t k) (hd : SR e t d) (k : KR e) : RS e D Q nw t := by
  refine ⟨GI_c h.1 (fun l hl => a1 _ (by omega)) (fun l hl => a4 _ (by omega)), ?_, ?_, fun i hi => ?_, k⟩
  · have := TR0_s (t := t) h.2.1 (congrFun b1 0) (congrFun b1 1) (congrFun b1 3) (congrFun b1 5) (fun i _ => by rw [b2 2 (by decide) (by decide) (by decide) (by decide)]) (fun i _ => by rw [b2 4 (by decide) (by decide) (by decide) (by decide)]) (fun i _ => by rw [b2 6 (by decide) (by decide) (by decide) (by decide)]) (fun i _ => by rw [b2 7 (by decide) (by decide) (by decide) (by decide)])
    unfold TR0
    rw [a1 (10 + 0) (by omega), a1 (20 + 0) (by omega), a2 0 (by omega)]
    exact this
  · have := IR_q (t := t) rfl rfl (congrFun b1 15) (b2 16 (by decide) (by decide) (by decide) (by decide)) h.2.2.1
    unfold IR TR1 at this ⊢
    rw [a1 0 (by omega), a1 (10 + 1) (by omega), a1 (20 + 1) (by omega), a2 1 (by omega)]
    exact this
  · by_cases e : i = d
    · subst e; exact hd
    · exact o i hi e
theorem SR_o {c e : CS} {s t : MS} {k : Nat} (h : SR c s k) (e5 : e.1 (50 + k) = c.1 (50 + k)) (e6 : e.1 (60 + k) = c.1 (60 + k)) (e7 : e.1 (70 + k) = c.1 (70 + k)) (e8 : e.1 (80 + k) = c.1 (80 + k)) (eA : e.2.1 (10 + k) = c.2.1 (10 + k)) (eR : e.2.2.2 (10 + k) = c.2.2.2 (10 + k))
    (t8 : t.2.1 8 k = s.2.1 8 k) (t9 : t.2.1 9 k = s.2.1 9 k) (t10 : t.2.1 10 k = s.2.1 10 k) (t11 : ∀ i, i < 100 → t.2.1 11 (100 * k + i) = s.2.1 11 (100 * k + i)) : SR e t k := by
  have := SR_s (t := t) h t8 t9 t10 t11
  unfold SR at this ⊢
  rw [e5, e6, e7, e8, eA, eR]
  exact this
section
variable {c : CS} {D : List ab_E} {Q : QT} {nw : Nat} {s : MS}
theorem rs_row (h : RS c D Q nw s) {a b d : Int32} : ∃ Q2 nw2, RS (rowP c a b d) D Q2 nw2 (roS s a b d) := by
  refine ⟨Q, nw, ?_⟩
  unfold rowP roS
  by_cases q1 : iw a 0 7 = true
  · rw [if_pos q1, if_pos q1]
    by_cases q2 : iw b 0 2 = true
    · rw [if_pos q2, if_pos q2]
      by_cases q3 : d ≤ 100
      · rw [if_pos q3, if_pos q3]
        by_cases q4 : 0 ≤ d
        · rw [if_pos q4, if_pos q4]
          obtain ⟨j, hj, rfl⟩ := iw8 q1
          obtain ⟨o, ho, rfl⟩ := iw_ex (n := 3) (by decide) (by decide) q2
          obtain ⟨n, hn, rfl⟩ := nI_of2 (n := 100) (by decide) (fun z => (fa_of_lt z).2.1 q4) q3
          rw [tn_nI (by omega)]
          unfold hrP
          have C0 : ∀ (x : CS) m, (acc (hrF j) x m).1 = x.1 ∧ (∀ k, k ≠ 10 + j → (acc (hrF j) x m).2.1 k = x.2.1 k) ∧ (∀ i, i < m → (acc (hrF j) x m).2.1 (10 + j) i = 0) ∧ (acc (hrF j) x m).2.2.2 = x.2.2.2 := fun x m => by
            refine accI (fun m (e : CS) => e.1 = x.1 ∧ (∀ k, k ≠ 10 + j → e.2.1 k = x.2.1 k) ∧ (∀ i, i < m → e.2.1 (10 + j) i = 0) ∧ e.2.2.2 = x.2.2.2) ⟨rfl, fun _ _ => rfl, fun i hi => absurd hi (by omega), rfl⟩ ?_
            rintro m hm e ⟨e1, e2, e3, e4⟩
            refine ⟨e1, fun k hk => (if_neg hk).trans (e2 k hk), fun i hi => ?_, e4⟩
            show (if 10 + j = 10 + j then upd (e.2.1 (10 + j)) m 0 else _) i = 0
            rw [if_pos rfl]
            by_cases z : i = m
            · subst z; exact if_pos rfl
            · exact (if_neg z).trans (e3 i (by omega))
          have M0 : ∀ (x : MS) m, (acc (roF j) x m).1 = x.1 ∧ (∀ k, k ≠ 11 → (acc (roF j) x m).2.1 k = x.2.1 k) ∧ (∀ i, i < m → (acc (roF j) x m).2.1 11 (100 * j + i) = 0) ∧ ∀ i, (i < 100 * j ∨ 100 * j + m ≤ i) → (acc (roF j) x m).2.1 11 i = x.2.1 11 i := fun x m => by
            refine accI (fun m (e : MS) => e.1 = x.1 ∧ (∀ k, k ≠ 11 → e.2.1 k = x.2.1 k) ∧ (∀ i, i < m → e.2.1 11 (100 * j + i) = 0) ∧ ∀ i, (i < 100 * j ∨ 100 * j + m ≤ i) → e.2.1 11 i = x.2.1 11 i) ⟨rfl, fun _ _ => rfl, fun i hi => absurd hi (by omega), fun _ _ => rfl⟩ ?_
            rintro m hm e ⟨e1, e2, e3, e4⟩
            refine ⟨e1, fun k hk => (mu2_n hk).trans (e2 k hk), fun i hi => ?_, fun i hi => ?_⟩
            · show (mu2 e 11 (100 * j + m) 0).2.1 11 (100 * j + i) = 0
              rw [mu2_v]
              by_cases z : i = m
              · subst z; exact if_pos rfl
              · exact (if_neg (by omega)).trans (e3 i (by omega))
            · show (mu2 e 11 (100 * j + m) 0).2.1 11 i = _
              rw [mu2_v, if_neg (by omega)]
              exact e4 i (by omega)
          obtain ⟨c1, c2, c3, c4⟩ := C0 (cu1 (cu1 (cu1 c (50 + j) 2) (70 + j) (nI o)) (80 + j) (nI n)) 100
          obtain ⟨m1, m2, m3, m4⟩ := M0 (mu2 (mu2 (mu2 s 8 j 2) 9 j (nI o)) 10 j (nI n)) 100
          generalize acc (hrF j) _ 100 = e at c1 c2 c3 c4 ⊢
          generalize acc (roF j) _ 100 = t at m1 m2 m3 m4 ⊢
          have v1 : ∀ k, e.1 k = if k = 80 + j then nI n else if k = 70 + j then nI o else if k = 50 + j then 2 else c.1 k := fun k => congrFun c1 k
          have w8 : ∀ i, t.2.1 8 i = if i = j then 2 else s.2.1 8 i := fun i => by rw [m2 8 (by decide), mu2_n (by decide), mu2_n (by decide), mu2_v]
          have w9 : ∀ i, t.2.1 9 i = if i = j then nI o else s.2.1 9 i := fun i => by rw [m2 9 (by decide), mu2_n (by decide), mu2_v, mu2_n (by decide)]
          have w10 : ∀ i, t.2.1 10 i = if i = j then nI n else s.2.1 10 i := fun i => by rw [m2 10 (by decide), mu2_v, mu2_n (by decide), mu2_n (by decide)]
          refine RS_sh h j (fun k hk => ?_) (fun k hk => (c2 k (by omega)).trans rfl) (fun k hk => congrFun c4 k) m1 (fun k h8 h9 h10 h11 => ?_) (fun k hk hkd => ?_) ?_ ?_
          · rw [v1, if_neg (by omega), if_neg (by omega), if_neg (by omega)]
          · rw [m2 k h11, mu2_n h10, mu2_n h9, mu2_n h8]
          · refine SR_o (rs_sr h hk) ?_ ?_ ?_ ?_ (c2 _ (by omega)) (congrFun c4 _) ?_ ?_ ?_ (fun i hi => ?_)
            · rw [v1, if_neg (by omega), if_neg (by omega), if_neg (by omega)]
            · rw [v1, if_neg (by omega), if_neg (by omega), if_neg (by omega)]
            · rw [v1, if_neg (by omega), if_neg (by omega), if_neg (by omega)]
            · rw [v1, if_neg (by omega), if_neg (by omega), if_neg (by omega)]
            · rw [w8, if_neg hkd]
            · rw [w9, if_neg hkd]
            · rw [w10, if_neg hkd]
            · rw [m4 _ (by omega), mu2_n (by decide), mu2_n (by decide), mu2_n (by decide)]
          · refine Or.inr (Or.inr ⟨?_, ?_, o, n, ho, hn, ?_, ?_, ?_, ?_, fun i hi => ?_⟩)
            · rw [v1, if_neg (by omega), if_neg (by omega), if_pos rfl]
            · rw [w8, if_pos rfl]
            · rw [v1, if_neg (by omega), if_pos rfl]
            · rw [w9, if_pos rfl]
            · rw [v1, if_pos rfl]
            · rw [w10, if_pos rfl]
            · rw [c3 i hi, m3 i hi]
          · intro k hk
            obtain ⟨x, hx, z⟩ := h.2.2.2.2 k hk
            exact ⟨x, hx, (congrFun c4 _).trans z⟩
        · rw [if_neg q4, if_neg q4]; exact h
      · rw [if_neg q3, if_neg q3]; exact h
    · rw [if_neg q2, if_neg q2]; exact h
  · rw [if_neg q1, if_neg q1]; exact h
theorem rs_keep (h : RS c D Q nw s) {a b d e : Int32} : ∃ Q2 nw2, RS (kepP c a b d e) D Q2 nw2 (keS s a b d e) := by
  refine ⟨Q, nw, ?_⟩
  unfold kepP keS
  rw [eo_iw]
  by_cases q1 : iw a 0 7 = true
  · rw [if_pos q1, if_pos q1]
    obtain ⟨j, hj, rfl⟩ := iw8 q1
    rw [tn_nI (by omega)]
    by_cases q2 : iw b 0 1 = true
    · rw [if_pos q2, if_pos q2]
      rcases iw2 q2 with rfl | rfl
      · rw [if_pos rfl, if_neg (by decide)]
        have v1 : ∀ k, (cu1 c (50 + j) 0).1 k = if k = 50 + j then 0 else c.1 k := fun k => rfl
        refine RS_sh h j (fun k hk => ?_) (fun k hk => rfl) (fun k hk => rfl) rfl (fun k h8 h9 h10 h11 => ?_) (fun k hk hkd => ?_) ?_ h.2.2.2.2
        · rw [v1, if_neg (by omega)]
        · rw [mu2_n h10, mu2_n h9, mu2_n h8]
        · refine SR_o (rs_sr h hk) ?_ ?_ ?_ ?_ rfl rfl ?_ ?_ ?_ (fun i hi => ?_)
          · rw [v1, if_neg (by omega)]
          · rw [v1, if_neg (by omega)]
          · rw [v1, if_neg (by omega)]
          · rw [v1, if_neg (by omega)]
          · rw [mu2_n (by decide), mu2_n (by decide), mu2_v, if_neg hkd]
          · rw [mu2_n (by decide), mu2_v, mu2_n (by decide), if_neg hkd]
          · rw [mu2_v, mu2_n (by decide), mu2_n (by decide), if_neg hkd]
          · rw [mu2_n (by decide), mu2_n (by decide), mu2_n (by decide)]
        · refine Or.inl ⟨by rw [v1, if_pos rfl], ?_⟩
          rw [mu2_n (by decide), mu2_n (by decide), mu2_v, if_pos rfl]
      · rw [if_neg (by decide), if_pos rfl]
        by_cases q3 : iw d 0 7 = true
        · rw [if_pos q3, if_pos q3]
          by_cases q4 : iw e 0 9 = true
          · rw [if_pos q4, if_pos q4]
            obtain ⟨x, hx, rfl⟩ := iw8 q3
            obtain ⟨f, hf, rfl⟩ := iw_ex (n := 10) (by decide) (by decide) q4
            rw [tn_nI (by omega)]
            have v1 : ∀ k, (hsP c j x (nI f)).1 k = if k = 60 + j then nI f else if k = 50 + j then 1 else c.1 k := fun k => rfl
            have v4 : ∀ k, (hsP c j x (nI f)).2.2.2 k = if k = 10 + j then .ref (kR x) else c.2.2.2 k := fun k => rfl
            refine RS_sh h j (fun k hk => ?_) (fun k hk => rfl) (fun k hk => ?_) rfl (fun k h8 h9 h10 h11 => ?_) (fun k hk hkd => ?_) ?_ ?_
            · rw [v1, if_neg (by omega), if_neg (by omega)]
            · rw [v4, if_neg (by omega)]
            · rw [mu2_n h10, mu2_n h9, mu2_n h8]
            · refine SR_o (rs_sr h hk) ?_ ?_ ?_ ?_ rfl ?_ ?_ ?_ ?_ (fun i hi => ?_)
              · rw [v1, if_neg (by omega), if_neg (by omega)]
              · rw [v1, if_neg (by omega), if_neg (by omega)]
              · rw [v1, if_neg (by omega), if_neg (by omega)]
              · rw [v1, if_neg (by omega), if_neg (by omega)]
              · rw [v4, if_neg (by omega)]
              · rw [mu2_n (by decide), mu2_n (by decide), mu2_v, if_neg hkd]
              · rw [mu2_n (by decide), mu2_v, mu2_n (by decide), if_neg hkd]
              · rw [mu2_v, mu2_n (by decide), mu2_n (by decide), if_neg hkd]
              · rw [mu2_n (by decide), mu2_n (by decide), mu2_n (by decide)]
            · refine Or.inr (Or.inl ⟨?_, ?_, x, f, hx, hf, ?_, ?_, ?_, ?_⟩)
              · rw [v1, if_neg (by omega), if_pos rfl]
              · rw [mu2_n (by decide), mu2_n (by decide), mu2_v, if_pos rfl]
              · rw [v4, if_pos rfl]
              · rw [v1, if_pos rfl]
              · rw [mu2_n (by decide), mu2_v, if_pos rfl]
              · rw [mu2_v, if_pos rfl]
            · intro k hk
              rw [v4]
              by_cases z : 10 + k = 10 + j
              · rw [if_pos z]; exact ⟨x, hx, rfl⟩
              · rw [if_neg z]; exact h.2.2.2.2 k hk
          · rw [if_neg q4, if_neg q4]; exact h
        · rw [if_neg q3, if_neg q3]; exact h
    · rw [if_neg q2, if_neg q2]; exact h
  · rw [if_neg q1, if_neg q1]; exact h
theorem lo_eq (o : Nat) (ho : o < 3) (v : Int32) : loB (nI o) v = if nI o = 0 then v.toInt8.toInt32 else if nI o = 1 then v.toInt16.toInt32 else v := rfl
theorem rs_put (h : RS c D Q nw s) {a b d : Int32} : ∃ Q2 nw2, RS (putP c a b d) D Q2 nw2 (puS s a b d) := by
  refine ⟨Q, nw, ?_⟩
  unfold putP puS
  by_cases q1 : iw a 0 7 = true
  · rw [if_pos q1, if_pos q1]
    obtain ⟨j, hj, rfl⟩ := iw8 q1
    rw [tn_nI (by omega)]
    rcases sr_R (rs_sr h hj) with ⟨h1, h2, h3⟩ | ⟨h1, h2, h3, h4⟩
    · rw [if_pos h2, h3, if_pos (show (0 : Int32) ≤ 0 from by decide)]
      obtain ⟨m8, o, n, ho, hn, e7, m9, e8, m10, f⟩ := sr_2 (rs_sr h hj) h1
      unfold snP
      rw [hp_iw e8 hn, m10]
      by_cases q2 : iw b 0 (nI n - 1) = true
      · rw [if_pos q2, if_pos q2]
        obtain ⟨i, hi, rfl⟩ := iw_ex (n := n) rfl (by omega) q2
        rw [tn_nI (by omega), e7, m9, ← lo_eq o ho d]
        generalize loB (nI o) d = v
        have v2 : ∀ k, k ≠ 10 + j → (cf2 c (10 + j) (upd (c.2.1 (10 + j)) i v)).2.1 k = c.2.1 k := fun k hk => if_neg hk
        refine RS_sh h j (fun k hk => rfl) (fun k hk => v2 k (by omega)) (fun k hk => rfl) rfl (fun k h8 h9 h10 h11 => mu2_n h11) (fun k hk hkd => ?_) ?_ h.2.2.2.2
        · refine SR_o (rs_sr h hk) rfl rfl rfl rfl (v2 _ (by omega)) rfl ?_ ?_ ?_ (fun l hl => ?_)
          · rw [mu2_n (by decide)]
          · rw [mu2_n (by decide)]
          · rw [mu2_n (by decide)]
          · rw [mu2_v, if_neg (by omega)]
        · refine Or.inr (Or.inr ⟨h1, ?_, o, n, ho, hn, e7, ?_, e8, ?_, fun l hl => ?_⟩)
          · rw [mu2_n (by decide)]; exact m8
          · rw [mu2_n (by decide)]; exact m9
          · rw [mu2_n (by decide)]; exact m10
          · rw [mu2_v]
            show (if 10 + j = 10 + j then upd (c.2.1 (10 + j)) i v else _) l = _
            rw [if_pos rfl]
            by_cases z : l = i
            · subst z; rw [if_pos rfl]; exact if_pos rfl
            · rw [if_neg (by omega)]; exact (if_neg z).trans (f l hl)
      · rw [if_neg q2, if_neg q2]; exact h
    · rw [if_neg h2, if_neg h3]; exact h
  · rw [if_neg q1, if_neg q1]; exact h
end
