/-! two lies -/
theorem RS_c {c e : CS} {D : List ab_E} {Q : QT} {nw : Nat} {s : MS} (h1 : e.1 = c.1) (h2 : e.2.1 = c.2.1) (h4 : e.2.2.2 = c.2.2.2) (h : RS c D Q nw s) : RS e D Q nw s := by
  obtain ⟨c1, c2, c3, c4⟩ := c
  obtain ⟨e1, e2, e3, e4⟩ := e
  dsimp only at h1 h2 h4
  subst h1 h2 h4
  exact h
theorem ilB_c {c e : CS} (h1 : e.1 = c.1) (h2 : e.2.1 = c.2.1) (i : Nat) (w : Int32) : ilB e i w = ilB c i w := by
  unfold ilB kbT
  rw [h1, h2]
theorem fl_ok {c : CS} {j : Nat} {w : Int32} : ∀ (n : Nat) (p : CS × Nat), p.1.1 = c.1 → p.1.2.1 = c.2.1 →
    (flN j w n p).1.1 = c.1 ∧ (flN j w n p).1.2.1 = c.2.1 ∧ (flN j w n p).1.2.2.2 = p.1.2.2.2 ∧ (∀ k, k ≠ j → (flN j w n p).1.2.2.1 k = p.1.2.2.1 k) ∧ p.2 ≤ (flN j w n p).2 ∧ (∀ i, i < p.2 → (flN j w n p).1.2.2.1 j i = p.1.2.2.1 j i) ∧
    (∀ i, p.2 ≤ i → i < (flN j w n p).2 → ∃ k, k < n ∧ ilB c k w = true ∧ (flN j w n p).1.2.2.1 j i = wcC k) ∧ ∀ k, k < n → ilB c k w = true → ∃ i, i < (flN j w n p).2 ∧ (flN j w n p).1.2.2.1 j i = wcC k
  | 0, p, h1, h2 => ⟨h1, h2, rfl, fun _ _ => rfl, Nat.le_refl _, fun _ _ => rfl, fun i a b => absurd (show i < p.2 from b) (by omega), fun k hk => absurd hk (by omega)⟩
  | n + 1, p, h1, h2 => by
    by_cases q : ilB c n w = true
    · have e : flN j w (n + 1) p = flN j w n (cu3 p.1 j p.2 (wcC n), p.2 + 1) := by
        show flN j w n (if ilB p.1 n w = true then _ else _) = _
        rw [ilB_c h1 h2, if_pos q]
      rw [e]
      obtain ⟨a1, a2, a3, a4, a5, a6, a7, a8⟩ := fl_ok n (cu3 p.1 j p.2 (wcC n), p.2 + 1) h1 h2
      have hv : ∀ i, (cu3 p.1 j p.2 (wcC n)).2.2.1 j i = if i = p.2 then wcC n else p.1.2.2.1 j i := fun i => by
        show (if j = j then vp_updL (p.1.2.2.1 j) p.2 (wcC n) else _) i = _
        rw [if_pos rfl]; rfl
      dsimp only at a5 a6 a7
      refine ⟨a1, a2, a3, fun k hk => (a4 k hk).trans (if_neg hk), by omega, fun i hi => ?_, fun i hi hi2 => ?_, fun k hk hb => ?_⟩
      · rw [a6 i (by omega), hv, if_neg (by omega)]
      · by_cases e2 : i = p.2
        · exact ⟨n, by omega, q, by rw [a6 i (by omega), hv, if_pos e2]⟩
        · obtain ⟨k, hk, z⟩ := a7 i (by omega) hi2
          exact ⟨k, by omega, z⟩
      · by_cases e2 : k = n
        · subst e2
          exact ⟨p.2, by omega, by rw [a6 p.2 (by omega), hv, if_pos rfl]⟩
        · exact a8 k (by omega) hb
    · have e : flN j w (n + 1) p = flN j w n p := by
        show flN j w n (if ilB p.1 n w = true then _ else _) = _
        rw [ilB_c h1 h2, if_neg q]
      rw [e]
      obtain ⟨a1, a2, a3, a4, a5, a6, a7, a8⟩ := fl_ok n p h1 h2
      refine ⟨a1, a2, a3, a4, a5, a6, fun i hi hi2 => ?_, fun k hk hb => ?_⟩
      · obtain ⟨k, hk, z⟩ := a7 i hi hi2
        exact ⟨k, by omega, z⟩
      · by_cases e2 : k = n
        · subst e2; exact absurd hb q
        · exact a8 k (by omega) hb
/-- the most of some numbers, or -4 -/
def MX (S : Int32 → Prop) (v : Int32) : Prop := (v = -4 ∨ S v) ∧ (∀ x, S x → x ≤ v) ∧ (-4 : Int32) ≤ v
theorem MX_e {S T : Int32 → Prop} {v : Int32} (e : ∀ x, S x ↔ T x) (h : MX S v) : MX T v := ⟨h.1.imp id (e v).mp, fun x hx => h.2.1 x ((e x).mpr hx), h.2.2⟩
theorem MX_u {S : Int32 → Prop} {v w : Int32} (h : MX S v) (g : MX S w) : v = w := by
  have a : v ≤ w := by rcases h.1 with e | e; rw [e]; exact g.2.2; exact g.2.1 v e
  have b : w ≤ v := by rcases g.1 with e | e; rw [e]; exact h.2.2; exact h.2.1 w e
  rw [fa_le] at a b
  rw [fa_eq]; omega
theorem le_rI (a : Int32) : a ≤ a := by rw [fa_le]; omega
theorem le_tI {a b c : Int32} (h : a ≤ b) (g : b ≤ c) : a ≤ c := by rw [fa_le] at *; omega
theorem maxI_l (a b : Int32) : a ≤ maxI a b ∧ b ≤ maxI a b ∧ (maxI a b = a ∨ maxI a b = b) := by
  unfold maxI
  split
  · exact ⟨(fa_of_lt ‹_›).1, le_rI b, Or.inr rfl⟩
  · exact ⟨le_rI a, fa_of_nlt ‹_›, Or.inl rfl⟩
theorem MX_0 : MX (fun _ => False) (-4) := ⟨Or.inl rfl, fun _ h => h.elim, by decide⟩
theorem MX_j {S T : Int32 → Prop} {v w : Int32} (h : MX S v) (g : MX T w) : MX (fun x => S x ∨ T x) (maxI v w) := by
  obtain ⟨a, b, e⟩ := maxI_l v w
  refine ⟨?_, fun x hx => hx.elim (fun z => le_tI (h.2.1 x z) a) (fun z => le_tI (g.2.1 x z) b), le_tI h.2.2 a⟩
  rcases e with e | e <;> rw [e]
  · exact h.1.imp id Or.inl
  · exact g.1.imp id Or.inr
theorem MX_1 {S : Int32 → Prop} {v y : Int32} (h : MX S v) : MX (fun x => S x ∨ x = y) (maxI v y) := by
  obtain ⟨a, b, e⟩ := maxI_l v y
  refine ⟨?_, fun x hx => hx.elim (fun z => le_tI (h.2.1 x z) a) (fun z => by rw [z]; exact b), le_tI h.2.2 a⟩
  rcases e with e | e <;> rw [e]
  · exact h.1.imp id Or.inl
  · exact Or.inr (Or.inr rfl)
theorem MX_s {S T : Int32 → Prop} {v : Int32} (h : MX S v) (g : ∀ x, T x → x ≤ v) : MX (fun x => S x ∨ T x) v := ⟨h.1.imp id Or.inl, fun x hx => hx.elim (h.2.1 x) (g x), h.2.2⟩
theorem lt_S {n : Nat} {P : Nat → Prop} : (∃ i, i < n + 1 ∧ P i) ↔ (∃ i, i < n ∧ P i) ∨ P n := by
  constructor
  · rintro ⟨i, hi, h⟩
    by_cases e : i = n
    · subst e; exact Or.inr h
    · exact Or.inl ⟨i, by omega, h⟩
  · rintro (⟨i, hi, h⟩ | h)
    · exact ⟨i, by omega, h⟩
    · exact ⟨n, by omega, h⟩
theorem ml_MX (g : Nat → Int64) (x : Int64) : ∀ n, MX (fun y => ∃ k, k < n ∧ y = lbc (x &&& (g k ^^^ (-1)))) (mlV g x n)
  | 0 => MX_e (fun y => ⟨False.elim, fun ⟨k, hk, _⟩ => absurd hk (by omega)⟩) MX_0
  | n + 1 => MX_e (fun y => lt_S.symm) (MX_1 (ml_MX g x n))
theorem tv_MX (f g : Nat → Int64) (x : Int64) (m : Nat) : ∀ n, MX (fun y => ∃ i, i < n ∧ ∃ k, k < m ∧ y = lbc ((x &&& (f i ^^^ (-1))) &&& (g k ^^^ (-1)))) (acc (tvF f g x m) (-4) n)
  | 0 => MX_e (fun y => ⟨False.elim, fun ⟨k, hk, _⟩ => absurd hk (by omega)⟩) MX_0
  | n + 1 => by
    have ih := tv_MX f g x m n
    rw [acc_s]
    generalize acc (tvF f g x m) (-4) n = v at ih ⊢
    refine MX_e (fun y => lt_S.symm) ?_
    unfold tvF
    split
    · refine MX_s ih ?_
      rintro y ⟨k, hk, rfl⟩
      refine le_tI (lbc_mono fun i hi hb => ?_) ‹_›
      rw [w_and, Bool.and_eq_true] at hb
      exact hb.1
    · exact MX_j ih (ml_MX g _ m)
theorem t2_MX (s : MS) (x : Int64) (j : Nat) {S : Int32 → Prop} {v : Int32} (h : MX S v) : ∀ n, MX (fun y => S y ∨ ∃ k, k < n ∧ lieB s (psI (nI k)) j = true ∧ y = lbc (x &&& (worldsN (psI (nI k)) 64 ^^^ (-1)))) (acc (tl2F s x j) v n)
  | 0 => MX_e (fun y => ⟨Or.inl, fun z => z.elim id fun ⟨k, hk, _⟩ => absurd hk (by omega)⟩) h
  | n + 1 => by
    have ih := t2_MX s x j h n
    rw [acc_s]
    generalize acc (tl2F s x j) v n = u at ih ⊢
    unfold tl2F
    split
    · rename_i q
      exact MX_e (fun y => (or_assoc).trans (or_congr Iff.rfl ((or_congr Iff.rfl ⟨fun z => ⟨q, z⟩, fun z => z.2⟩).trans lt_S.symm))) (MX_1 ih)
    · rename_i q
      refine MX_e (fun y => or_congr Iff.rfl ?_) ih
      rw [lt_S]
      exact ⟨Or.inl, fun z => z.elim id fun z => absurd z.1 q⟩
theorem t1_MX (s : MS) (x : Int64) (j1 j2 : Nat) : ∀ n, MX (fun y => ∃ i, i < n ∧ lieB s (psI (nI i)) j1 = true ∧ ∃ k, k < 288 ∧ lieB s (psI (nI k)) j2 = true ∧ y = lbc ((x &&& (worldsN (psI (nI i)) 64 ^^^ (-1))) &&& (worldsN (psI (nI k)) 64 ^^^ (-1)))) (acc (tl1F s x j1 j2) (-4) n)
  | 0 => MX_e (fun y => ⟨False.elim, fun ⟨k, hk, _⟩ => absurd hk (by omega)⟩) MX_0
  | n + 1 => by
    have ih := t1_MX s x j1 j2 n
    rw [acc_s]
    generalize acc (tl1F s x j1 j2) (-4) n = u at ih ⊢
    unfold tl1F
    split
    · rename_i q
      exact MX_e (fun y => (or_congr Iff.rfl ⟨fun z => ⟨q, z⟩, fun z => z.2⟩).trans lt_S.symm) (t2_MX s _ j2 ih 288)
    · rename_i q
      refine MX_e (fun y => ?_) ih
      rw [lt_S]
      exact ⟨Or.inl, fun z => z.elim id fun z => absurd z.1 q⟩
section
variable {c : CS} {D : List ab_E} {Q : QT} {nw : Nat} {s : MS}
theorem eq_twoLies (h : RS c D Q nw s) {a b : Int32} : twoC c (lfT (Q (2 * 0)).2 (Q (2 * 0)).1 (Q (2 * 0 + 1)).2 (Q (2 * 0 + 1)).1) a b = twoM s (Q (2 * 0)).1 (Q (2 * 0 + 1)).1 a b := by
  have h5 := rs_w5 h
  unfold twoC twoM
  rw [hw_iw (rs_w h) h5, hw_iw (rs_w h) h5, rs_m3 h]
  refine if_cg fun q => if_cg fun q2 => ?_
  split
  · rfl
  obtain ⟨j, hj, rfl⟩ := iwn (by omega) q
  obtain ⟨k, hk, rfl⟩ := iwn (by omega) q2
  rw [tn_nI (by omega), tn_nI (by omega), leftA_eq h]
  generalize lfT (Q (2 * 0)).2 (Q (2 * 0)).1 (Q (2 * 0 + 1)).2 (Q (2 * 0 + 1)).1 = L
  obtain ⟨a1, a2, -, -, -, -, a7, a8⟩ := fl_ok (c := c) (j := 0) (w := nI j) 288 (c, 0) rfl rfl
  obtain ⟨b1, b2, -, b4, -, -, b7, b8⟩ := fl_ok (c := c) (j := 1) (w := nI k) 288 ((tw1 c (nI j)).1, 0) a1 a2
  have f0 : (tw2 c (nI j) (nI k)).1.2.2.1 0 = (tw1 c (nI j)).1.2.2.1 0 := b4 0 (by decide)
  refine MX_u (MX_e (fun y => ?_) (tv_MX _ _ L _ _)) (t1_MX s L j k 288)
  rw [f0]
  constructor
  · rintro ⟨i, hi, l, hl, rfl⟩
    obtain ⟨x, hx, y1, y2⟩ := a7 i (Nat.zero_le _) hi
    obtain ⟨z, hz, y3, y4⟩ := b7 l (Nat.zero_le _) hl
    refine ⟨x, hx, (il_eq h hj hx).trans y1, z, hz, (il_eq h hk hz).trans y3, ?_⟩
    rw [wc_eq hx, wc_eq hz, ← y2, ← y4]; rfl
  · rintro ⟨x, hx, y1, z, hz, y3, rfl⟩
    obtain ⟨i, hi, y2⟩ := a8 x hx ((il_eq h hj hx).symm.trans y1)
    obtain ⟨l, hl, y4⟩ := b8 z hz ((il_eq h hk hz).symm.trans y3)
    refine ⟨i, hi, l, hl, ?_⟩
    rw [wc_eq hx, wc_eq hz, ← y2, ← y4]; rfl
theorem rs_twoLies (h : RS c D Q nw s) {a b : Int32} : ∃ Q2 nw2, RS (twoP c a b) D Q2 nw2 s := by
  refine ⟨Q, nw, ?_⟩
  unfold twoP
  split
  · split
    · split
      · exact h
      · obtain ⟨a1, a2, a3, -⟩ := fl_ok (c := c) (j := 0) (w := a) 288 (c, 0) rfl rfl
        obtain ⟨b1, b2, b3, -⟩ := fl_ok (c := c) (j := 1) (w := b) 288 ((tw1 c a).1, 0) a1 a2
        exact RS_c b1 b2 (b3.trans a3) h
    · exact h
  · exact h
theorem eq_image (h : RS c D Q nw s) : nI (Q (2 * 0 + 1)).1 = s.1 5 := (rs_m5 h).symm
theorem eq_row (h : RS c D Q nw s) {a b d : Int32} : roM a b d = roM a b d := rfl
theorem eq_keep (h : RS c D Q nw s) {a b d e : Int32} : kepR a b d e = keM a b d e := by
  unfold kepR keM
  rw [eo_iw]
  refine if_cg fun _ => if_cg fun q => ?_
  rcases iw2 q with rfl | rfl
  · rw [if_pos rfl, if_neg (by decide)]
  · rw [if_neg (by decide), if_pos rfl]
theorem eq_unsays (h : RS c D Q nw s) : unsR (Q (2 * 0 + 1)).1 = unsaysM s := by
  have h10 := rs_ns h
  unfold unsR unsaysM
  rw [rs_m5 h]
  by_cases q : (Q (2 * 0 + 1)).1 = 0
  · rw [if_pos q, q, if_pos (by decide)]
  · rw [if_neg q, if_neg (nI_ne0 (by omega) (by omega))]
    obtain ⟨m, e⟩ : ∃ m, (Q (2 * 0 + 1)).1 = m + 1 := ⟨(Q (2 * 0 + 1)).1 - 1, by omega⟩
    rw [e, nI_pred]; rfl
theorem nI_six {n N : Nat} (h : n ≤ N) (hN : N < 2147483648) {x : Int32} (e : x = nI N) {y z : Int32} : (if nI n = x then y else z) = if n < N then z else y := by
  subst e
  by_cases q : n < N
  · rw [if_pos q, if_neg (fun z => by have := (nI_eq (by omega) (by omega)).mp z; omega)]
  · rw [if_neg q, if_pos (by rw [show n = N from by omega])]
theorem eq_rules (h : RS c D Q nw s) {a b d : Int32} : rulR c (Q (2 * 0)).1 a b d = rulesM s a b d := by
  have h6 := rs_nl h
  unfold rulR rulesM
  rw [inB6, inB6, rs_m1 h, nI_six h6 (by decide) (show (6 : Int32) = nI 6 from rfl)]
  refine if_cg fun q => if_cg fun _ => if_cg fun _ => ?_
  obtain ⟨j, hj, rfl⟩ := iw8 q
  rw [tn_nI (by omega)]
  exact shS_if (rs_sr h hj) fun _ => rfl
theorem if_sw {α : Type} {a b : Bool} {x z : α} : (if a = true then (if b = true then x else z) else z) = if b = true then (if a = true then x else z) else z := by cases a <;> cases b <;> rfl
theorem eq_says (h : RS c D Q nw s) {a b d e : Int32} : sayR c (Q (2 * 0 + 1)).1 a b d e = saysM s a b d e := by
  have h10 := rs_ns h
  have h5 := rs_w5 h
  unfold sayR saysM
  rw [inB6, inB6, rs_m5 h, nI_six h10 (by decide) (show (10 : Int32) = nI 10 from rfl), hw_iw (rs_w h) h5, rs_m3 h, if_sw]
  refine if_cg fun _ => if_cg fun q => if_cg fun _ => if_cg fun _ => ?_
  obtain ⟨j, hj, rfl⟩ := iw8 q
  rw [tn_nI (by omega)]
  exact shS_if (rs_sr h hj) fun _ => rfl
theorem eq_truth (h : RS c D Q nw s) {a : Int32} : trtR c a = truM s a := by
  unfold trtR truM
  rw [inB64, rs_t h]
theorem eq_witness (h : RS c D Q nw s) {a : Int32} : wtnR c a = witM s a := by
  have h5 := rs_w5 h
  unfold wtnR witM awP awB
  rw [rs_m3 h, rs_w h, nI_six h5 (by decide) (show (5 : Int32) = nI 5 from rfl), show afB a = iw a 0 63 from rfl]
  refine if_cg fun q => ?_
  rw [q]
  by_cases z : nw < 5
  · rw [decide_eq_false (show ¬ nI nw = 5 from fun e => by have := (nI_eq (a := nw) (b := 5) (by omega) (by omega)).mp e; omega), if_pos z]
    show nI nw + 1 - 1 = nI nw
    rw [nI_1, nI_pred]
  · rw [if_neg z, show nw = 5 from by omega]; rfl
theorem hp_iw {c : CS} {d n : Nat} (e : c.1 (80 + d) = nI n) (hn : n ≤ 100) (i : Int32) : hpB c d i 1 = iw i 0 (nI n - 1) := by
  unfold hpB iw
  rw [e, decide_eq_false (by decide : ¬ (1 : Int32) < 0), decide_eq_false (show ¬ (100 : Int32) < nI n from nI_nlt (a := 100) (b := n) hn (by omega))]
  rcases Nat.eq_zero_or_pos n with z | z
  · subst z
    by_cases q : i < 0
    · rw [decide_eq_true q]; rfl
    · rw [decide_eq_true (p := nI 0 < 1) (by decide), decide_eq_true (p := nI 0 - 1 < i) (by rw [fa_lt, show (0 : Int32).toInt = 0 from by decide] at q; rw [fa_lt, show (nI 0 - 1).toInt = -1 from by decide]; omega)]
      cases (decide (i < 0)) <;> rfl
  · rw [decide_eq_false (show ¬ nI n < 1 from nI_nlt (a := n) (b := 1) (by omega) (by omega))]
    cases decide (i < 0) <;> cases decide (nI n - 1 < i) <;> rfl
theorem eq_put (h : RS c D Q nw s) {a b d : Int32} : putR c a b = puM s a b := by
  unfold putR puM
  refine if_cg fun q => ?_
  obtain ⟨j, hj, rfl⟩ := iw8 q
  rw [tn_nI (by omega)]
  refine shR_if (rs_sr h hj) fun h1 => ?_
  obtain ⟨-, o, n, ho, hn, e7, m9, e8, m10, f⟩ := sr_2 (rs_sr h hj) h1
  rw [hp_iw e8 hn, m10]
theorem eq_element (h : RS c D Q nw s) {a b : Int32} : elK c a b = elT s a b ∧ (elK c a b = 0 → (nuA c (tn a) b).toInt64 = elM s a b) := by
  unfold elK elT elM
  by_cases q : iw a 0 7 = true
  · rw [if_pos q, if_pos q, if_pos q]
    obtain ⟨j, hj, rfl⟩ := iw8 q
    rw [tn_nI (by omega)]
    rcases sr_R (rs_sr h hj) with ⟨h1, h2, h3⟩ | ⟨h1, h2, h3, h4⟩
    · obtain ⟨m8, o, n, ho, hn, e7, m9, e8, m10, f⟩ := sr_2 (rs_sr h hj) h1
      rw [if_pos h2, if_pos m8, if_pos m8, hp_iw e8 hn, m10]
      by_cases q2 : iw b 0 (nI n - 1) = true
      · rw [if_pos q2, if_pos q2]
        refine ⟨rfl, fun _ => ?_⟩
        obtain ⟨i, hi, rfl⟩ := iw_ex (n := n) rfl (by omega) q2
        rw [tn_nI (by omega), nu_in e8 hn hi, f i (by omega)]
      · rw [if_neg q2, if_neg q2]
        exact ⟨rfl, fun z => absurd z (by decide)⟩
    · have : ¬ s.2.1 8 j = 2 := by
        rcases rs_sr h hj with ⟨-, e⟩ | ⟨-, e, -⟩ | ⟨e, -⟩
        · rw [e]; decide
        · rw [e]; decide
        · exact absurd e h1
      rw [if_neg h2, if_neg this, if_neg this]
      exact ⟨rfl, fun z => absurd z (by decide)⟩
  · rw [if_neg q, if_neg q, if_neg q]
    exact ⟨rfl, fun z => absurd z (by decide)⟩
end
