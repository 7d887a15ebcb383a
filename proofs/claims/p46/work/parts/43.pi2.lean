/-! witness, truth, image, restore, rows, a trial that can't go on -/
theorem nI_ne5 {n : Nat} (h : n < 5) (q : nI n = 5) : False := by
  have e := congrArg Int32.toInt q
  rw [nI_toInt (by omega), show (5 : Int32).toInt = 5 from rfl] at e
  omega
theorem cu1_s {c : CS} {k : Nat} {x : Int32} : (cu1 c k x).1 k = x := if_pos rfl
theorem wt_e {c : CS} {D : List ab_E} {Q : QT} {nw b : Nat} (h : PI c D Q nw) (hb : b < 64) (hn : nw < 5) :
    wtnR c (nI b) = nI nw ∧ PI (wtnP c (nI b)) D Q (nw + 1) ∧ (wtnP c (nI b)).2.1 0 nw = nI b ∧ (∀ j, j ≠ nw → (wtnP c (nI b)).2.1 0 j = c.2.1 0 j) ∧ (∀ k, k ≠ 10 → (wtnP c (nI b)).1 k = c.1 k) ∧ (∀ k, k ≠ 0 → (wtnP c (nI b)).2.1 k = c.2.1 k) ∧ (wtnP c (nI b)).2.2.2 = c.2.2.2 := by
  have ha : awB c 0 (nI b) = true := by
    unfold awB
    rw [afBn b hb, h.2.1, decide_eq_false (fun q => nI_ne5 hn q)]
    rfl
  have hwp : wtnP c (nI b) = cu1 (cu2 c 0 nw (nI b)) (10 + 0) (nI (nw + 1)) := by
    unfold wtnP awP
    rw [if_pos (afBn b hb), if_pos ha, h.2.1, tn8 (by omega), nI_1]
  have e10 : (wtnP c (nI b)).1 (10 + 0) = nI (nw + 1) := by rw [hwp]; exact cu1_s
  have e1 : ∀ k, k ≠ 10 → (wtnP c (nI b)).1 k = c.1 k := fun k hk => by rw [hwp]; exact pk_un hk
  have e20 : (wtnP c (nI b)).2.1 0 nw = nI b := by rw [hwp]; exact pk_us
  have e2n : ∀ j, j ≠ nw → (wtnP c (nI b)).2.1 0 j = c.2.1 0 j := fun j hj => by rw [hwp]; exact pk_un hj
  have e2 : ∀ k, k ≠ 0 → (wtnP c (nI b)).2.1 k = c.2.1 k := fun k hk => by rw [hwp]; exact if_neg hk
  have e4 : (wtnP c (nI b)).2.2.2 = c.2.2.2 := by rw [hwp]; rfl
  obtain ⟨h1, h2, h3, h4, ⟨t, t1, t2⟩, h6, h7, h8, h9⟩ := h
  refine ⟨?_, ⟨GI_c h1 (fun l hl => e1 _ (by omega)) (fun l hl => by rw [e4]), e10, by omega, h4, ⟨t, t1, (e1 _ (by omega)).trans t2⟩, fun i hi => ?_, fun j hj => ?_, fun d hd => by rw [e4]; exact h8 d hd, fun d hd q => ?_⟩, e20, e2n, e1, e2, e4⟩
  · have e : wtnP c (nI b) = awP c 0 (nI b) := if_pos (afBn b hb)
    unfold wtnR
    rw [if_pos (afBn b hb), if_pos ha, ← e, e10, nI_pred]
  · obtain ⟨w, hw, z⟩ := h6 i hi
    exact ⟨w, by omega, z⟩
  · by_cases q : j = nw
    · subst q; exact ⟨b, hb, e20⟩
    · rw [e2n j q]; exact h7 j (by omega)
  · rw [e1 _ (by omega)] at q
    obtain ⟨n, hn, z⟩ := h9 d hd q
    exact ⟨n, hn, (e1 _ (by omega)).trans z⟩
theorem tr_e {c : CS} {D : List ab_E} {Q : QT} {nw t : Nat} (h : PI c D Q nw) (ht : t < 64) : trtR c (nI t) = c.1 (20 + 0) ∧ PI (trtP c (nI t)) D Q nw ∧ (trtP c (nI t)).1 (20 + 0) = nI t ∧ (∀ k, k ≠ 20 → (trtP c (nI t)).1 k = c.1 k) ∧ (trtP c (nI t)).2 = c.2 := by
  have e : trtP c (nI t) = cu1 c (20 + 0) (nI t) := if_pos (inB64n t ht)
  have e1 : ∀ k, k ≠ 20 → (trtP c (nI t)).1 k = c.1 k := fun k hk => by rw [e]; exact pk_un hk
  have e2 : (trtP c (nI t)).2 = c.2 := by rw [e]; rfl
  have e3 : (trtP c (nI t)).1 (20 + 0) = nI t := by rw [e]; exact cu1_s
  obtain ⟨h1, h2, h3, h4, -, h6, h7, h8, h9⟩ := h
  refine ⟨if_pos (inB64n t ht), ⟨GI_c h1 (fun l hl => e1 _ (by omega)) (fun l hl => by rw [e2]), (e1 _ (by omega)).trans h2, h3, h4, ⟨t, ht, e3⟩, h6, fun j hj => by rw [e2]; exact h7 j hj, fun d hd => by rw [e2]; exact h8 d hd, fun d hd q => ?_⟩, e3, e1, e2⟩
  rw [e1 _ (by omega)] at q
  obtain ⟨n, hn, z⟩ := h9 d hd q
  exact ⟨n, hn, (e1 _ (by omega)).trans z⟩
/-- what the image keeps: a trial as it was -/
def KP (c : CS) (Q : QT) (nl : Nat × (Nat → SY)) (ns : Nat × (Nat → SY)) (nw : Nat) (T : Int32) (kn : Nat → Int32) : Prop := c.1 0 = 1 ∧ c.1 (10 + 1) = nI nw ∧ c.1 (20 + 1) = T ∧ (∀ j, j < 5 → c.2.1 1 j = kn j) ∧ Q (2 * 1) = nl ∧ Q (2 * 1 + 1) = ns
theorem im_e {c : CS} {D : List ab_E} {Q : QT} {nw : Nat} (h : PI c D Q nw) : PI (imgP c D Q).1 (imgP c D Q).2 (beQ 1 0 Q) nw ∧ (beQ 1 0 Q) (2 * 0) = Q (2 * 0) ∧ (beQ 1 0 Q) (2 * 0 + 1) = Q (2 * 0 + 1) ∧
    KP (imgP c D Q).1 (beQ 1 0 Q) (Q (2 * 0)) (Q (2 * 0 + 1)) nw (c.1 (20 + 0)) (c.2.1 0) ∧ (imgP c D Q).1.1 (20 + 0) = c.1 (20 + 0) ∧ (imgP c D Q).1.2.1 0 = c.2.1 0 ∧ (∀ k, 46 ≤ k → (imgP c D Q).1.1 k = c.1 k) ∧ (∀ k, 6 ≤ k → (imgP c D Q).1.2.2.2 k = c.2.2.2 k) ∧ ∀ k, k ≠ 1 → (imgP c D Q).1.2.1 k = c.2.1 k := by
  obtain ⟨b1, b2, b3, b4, b5, b6⟩ := be_v (t := 1) (u := 0) (n0 := (Q (2 * 0)).1) (n1 := (Q (2 * 0 + 1)).1) (p := (c, D)) (by decide) (by decide) (by decide)
  obtain ⟨q1, q2, q3⟩ := beQ_t (t := 1) (u := 0) (Q := Q) (by decide)
  have g := be_G (t := 1) (u := 0) h.1 (by decide) (by decide) (by decide)
  have e1 : ∀ k, k ≠ 0 → (imgP c D Q).1.1 k = (beP 1 0 (Q (2 * 0)).1 (Q (2 * 0 + 1)).1 (c, D)).1.1 k := fun k hk => pk_un hk
  have e0 : (imgP c D Q).1.1 0 = 1 := by unfold imgP; exact cu1_s
  have e2 : (imgP c D Q).1.2 = (beP 1 0 (Q (2 * 0)).1 (Q (2 * 0 + 1)).1 (c, D)).1.2 := rfl
  obtain ⟨h1, h2, h3, h4, ⟨t, t1, t2⟩, h6, h7, h8, h9⟩ := h
  have z0 : (beQ 1 0 Q) (2 * 0) = Q (2 * 0) := q3 _ (by decide) (by decide)
  have z1 : (beQ 1 0 Q) (2 * 0 + 1) = Q (2 * 0 + 1) := q3 _ (by decide) (by decide)
  have e20 : (imgP c D Q).1.1 (20 + 0) = c.1 (20 + 0) := (e1 _ (by decide)).trans (b1 _ (by decide) (by decide) (Or.inl (by decide)))
  have e10 : (imgP c D Q).1.1 (10 + 0) = c.1 (10 + 0) := (e1 _ (by decide)).trans (b1 _ (by decide) (by decide) (Or.inl (by decide)))
  have ek : (imgP c D Q).1.2.1 0 = c.2.1 0 := b4 0 (by decide)
  have eh : ∀ k, 46 ≤ k → (imgP c D Q).1.1 k = c.1 k := fun k hk => (e1 _ (by omega)).trans (b1 _ (by omega) (by omega) (Or.inr hk))
  refine ⟨⟨GI_c g (fun l hl => e1 _ (by omega)) (fun l hl => by rw [e2]), e10.trans h2, h3, by rw [z0]; exact h4, ⟨t, t1, e20.trans t2⟩, by rw [z1]; exact h6, fun j hj => by rw [ek]; exact h7 j hj, fun d hd => ?_, fun d hd q => ?_⟩, z0, z1, ⟨e0, (e1 _ (by decide)).trans (b2.trans h2), (e1 _ (by decide)).trans b3, fun j hj => b5 j hj, q1, q2⟩, e20, ek, eh, fun k hk => b6 k hk, fun k hk => b4 k hk⟩
  · obtain ⟨k, hk, z⟩ := h8 d hd
    exact ⟨k, hk, (b6 _ (by omega)).trans z⟩
  · rw [eh _ (by omega)] at q
    obtain ⟨n, hn, z⟩ := h9 d hd q
    exact ⟨n, hn, (eh _ (by omega)).trans z⟩
theorem re_e {c : CS} {D : List ab_E} {Q : QT} {nw nv : Nat} {nl ns : Nat × (Nat → SY)} {T : Int32} {kn : Nat → Int32} (h : PI c D Q nw) (hk : KP c Q nl ns nv T kn) (hv : nv ≤ 5) (hl : nl.1 ≤ 6) (hT : ∃ t, t < 64 ∧ T = nI t) (hs : ∀ i, i < ns.1 → ∃ w, w < nv ∧ (ns.2 i).1 = nI w) (hb : ∀ j, j < nv → ∃ b, b < 64 ∧ kn j = nI b) :
    rstR c Q = nI ns.1 ∧ PI (rstP c D Q).1 (rstP c D Q).2 (beQ 0 1 Q) nv ∧ (beQ 0 1 Q) (2 * 0) = nl ∧ (beQ 0 1 Q) (2 * 0 + 1) = ns ∧ KP (rstP c D Q).1 (beQ 0 1 Q) nl ns nv T kn ∧ (rstP c D Q).1.1 (20 + 0) = T ∧ (∀ j, j < 5 → (rstP c D Q).1.2.1 0 j = kn j) ∧ (∀ k, 46 ≤ k → (rstP c D Q).1.1 k = c.1 k) ∧ (∀ k, 6 ≤ k → (rstP c D Q).1.2.2.2 k = c.2.2.2 k) ∧ ∀ k, k ≠ 0 → (rstP c D Q).1.2.1 k = c.2.1 k := by
  obtain ⟨k1, k2, k3, k4, k5, k6⟩ := hk
  obtain ⟨b1, b2, b3, b4, b5, b6⟩ := be_v (t := 0) (u := 1) (n0 := (Q (2 * 1)).1) (n1 := (Q (2 * 1 + 1)).1) (p := (c, D)) (by decide) (by decide) (by decide)
  obtain ⟨q1, q2, q3⟩ := beQ_t (t := 0) (u := 1) (Q := Q) (by decide)
  have g := be_G (t := 0) (u := 1) h.1 (by decide) (by decide) (by decide)
  have h0 : ¬ c.1 0 = 0 := by rw [k1]; decide
  have e : rstP c D Q = beP 0 1 (Q (2 * 1)).1 (Q (2 * 1 + 1)).1 (c, D) := if_neg h0
  obtain ⟨h1, h2, h3, h4, -, h6, h7, h8, h9⟩ := h
  rw [e]
  have z0 : (beQ 0 1 Q) (2 * 0) = nl := q1.trans k5
  have z1 : (beQ 0 1 Q) (2 * 0 + 1) = ns := q2.trans k6
  have eh : ∀ k, 46 ≤ k → (beP 0 1 (Q (2 * 1)).1 (Q (2 * 1 + 1)).1 (c, D)).1.1 k = c.1 k := fun k hk => b1 _ (by omega) (by omega) (Or.inr hk)
  have eT := b3.trans k3
  have eb : ∀ j, j < 5 → (beP 0 1 (Q (2 * 1)).1 (Q (2 * 1 + 1)).1 (c, D)).1.2.1 0 j = kn j := fun j hj => (b5 j hj).trans (k4 j hj)
  refine ⟨?_, ⟨g, b2.trans k2, hv, by rw [z0]; exact hl, ?_, by rw [z1]; exact hs, fun j hj => by rw [eb j (by omega)]; exact hb j hj, fun d hd => ?_, fun d hd q => ?_⟩, z0, z1, ⟨(b1 _ (by decide) (by decide) (Or.inl (by decide))).trans k1, (b1 _ (by decide) (by decide) (Or.inl (by decide))).trans k2, (b1 _ (by decide) (by decide) (Or.inl (by decide))).trans k3, fun j hj => by rw [b4 1 (by decide)]; exact k4 j hj, (q3 _ (by decide) (by decide)).trans k5, (q3 _ (by decide) (by decide)).trans k6⟩, eT, eb, eh, fun k hk => b6 k hk, fun k hk => b4 k hk⟩
  · unfold rstR
    rw [if_neg h0, k6]
  · obtain ⟨t, t1, t2⟩ := hT
    exact ⟨t, t1, eT.trans t2⟩
  · obtain ⟨k, hk, z⟩ := h8 d hd
    exact ⟨k, hk, (b6 _ (by omega)).trans z⟩
  · rw [eh _ (by omega)] at q
    obtain ⟨n, hn, z⟩ := h9 d hd q
    exact ⟨n, hn, (eh _ (by omega)).trans z⟩
/-- changes of shelf 2 alone -/
def sh2 (c e : CS) : Prop := (∀ k, k ≠ 52 → k ≠ 72 → k ≠ 82 → e.1 k = c.1 k) ∧ (∀ k, k ≠ 12 → e.2.1 k = c.2.1 k) ∧ e.2.2.2 = c.2.2.2
theorem PI_sh2 {c e : CS} {D : List ab_E} {Q : QT} {nw : Nat} (h : PI c D Q nw) (f : sh2 c e) (hr : e.1 52 = 2 → ∃ n, n ≤ 100 ∧ e.1 82 = nI n) : PI e D Q nw := by
  obtain ⟨f1, f2, f4⟩ := f
  obtain ⟨h1, h2, h3, h4, ⟨t, t1, t2⟩, h6, h7, h8, h9⟩ := h
  refine ⟨GI_c h1 (fun l hl => f1 _ (by omega) (by omega) (by omega)) (fun l hl => by rw [f4]), (f1 _ (by omega) (by omega) (by omega)).trans h2, h3, h4, ⟨t, t1, (f1 _ (by omega) (by omega) (by omega)).trans t2⟩, h6, fun j hj => by rw [f2 0 (by decide)]; exact h7 j hj, fun d hd => by rw [f4]; exact h8 d hd, fun d hd q => ?_⟩
  by_cases z : d = 2
  · subst z; exact hr q
  · rw [f1 _ (by omega) (by omega) (by omega)] at q
    obtain ⟨n, hn, z2⟩ := h9 d hd q
    exact ⟨n, hn, (f1 _ (by omega) (by omega) (by omega)).trans z2⟩
theorem hr_acc {c : CS} : ∀ n, (acc (hrF 2) c n).1 = c.1 ∧ (∀ k, k ≠ 12 → (acc (hrF 2) c n).2.1 k = c.2.1 k) ∧ (acc (hrF 2) c n).2.2 = c.2.2
  | 0 => ⟨rfl, fun _ _ => rfl, rfl⟩
  | n + 1 => by
    obtain ⟨a, b, d⟩ := hr_acc n (c := c)
    rw [acc_s]
    exact ⟨a, fun k hk => (if_neg hk).trans (b k hk), d⟩
theorem ro_2 {c : CS} : rowP c 2 0 2 = hrP c 2 0 2 := by
  have e : tn 2 = 2 := rfl
  unfold rowP
  rw [if_pos (by decide), if_pos (by decide), if_pos (by decide), if_pos (by decide), e]
theorem hr_e {c : CS} : sh2 c (rowP c 2 0 2) ∧ (rowP c 2 0 2).1 52 = 2 ∧ (rowP c 2 0 2).1 72 = 0 ∧ (rowP c 2 0 2).1 82 = 2 := by
  obtain ⟨a, b, d⟩ := hr_acc (c := cu1 (cu1 (cu1 c (50 + 2) 2) (70 + 2) 0) (80 + 2) 2) 100
  have e1 : (rowP c 2 0 2).1 = upd (upd (upd c.1 52 2) 72 0) 82 2 := by rw [ro_2]; exact a
  refine ⟨⟨fun k h1 h2 h3 => by rw [e1, pk_un h3, pk_un h2, pk_un h1], fun k hk => by rw [ro_2]; exact b k hk, by rw [ro_2]; exact congrArg Prod.snd d⟩, by rw [e1, pk_un (by decide), pk_un (by decide), pk_us], by rw [e1, pk_un (by decide), pk_us], by rw [e1, pk_us]⟩
/-- a row of two bytes on shelf 2, of which place i is put -/
def R2 (c : CS) : Prop := c.1 52 = 2 ∧ c.1 72 = 0 ∧ c.1 82 = 2
theorem hp2 {c : CS} (h : R2 c) {i : Nat} (hi : i < 2) : hpB c 2 (nI i) 1 = true := hp_in (n := 2) h.2.2 (by decide) hi
theorem nu2 {c : CS} (h : R2 c) {i : Nat} (hi : i < 2) : nuA c 2 (nI i) = c.2.1 12 i := nu_in (n := 2) h.2.2 (by decide) hi
theorem pu_e {c : CS} (h : R2 c) {i : Nat} (hi : i < 2) {v : Int32} (hv : v.toInt8.toInt32 = v) : putR c 2 (nI i) = 0 ∧ sh2 c (putP c 2 (nI i) v) ∧ R2 (putP c 2 (nI i) v) ∧ (putP c 2 (nI i) v).2.1 12 i = v ∧ ∀ j, j ≠ i → (putP c 2 (nI i) v).2.1 12 j = c.2.1 12 j := by
  have e : tn 2 = 2 := rfl
  have hr : rfU c 2 2 = 0 := if_pos h.1
  have e1 : putP c 2 (nI i) v = cf2 c (10 + 2) (upd (c.2.1 (10 + 2)) i v) := by
    unfold putP snP
    rw [if_pos (by decide), e, if_pos hr, if_pos (hp2 h hi), tn8 (by omega), show c.1 (70 + 2) = 0 from h.2.1]
    show cf2 c (10 + 2) (upd (c.2.1 (10 + 2)) i v.toInt8.toInt32) = _
    rw [hv]
  refine ⟨?_, ?_, ?_, ?_, ?_⟩
  · unfold putR
    rw [if_pos (by decide), e, if_pos hr, if_pos (hp2 h hi)]
  · rw [e1]; exact ⟨fun _ _ _ _ => rfl, fun k hk => if_neg hk, rfl⟩
  · rw [e1]; exact h
  · rw [e1]; exact pk_us
  · rw [e1]; exact fun j hj => pk_un hj
theorem bp_2 {c : CS} (h : R2 c) (h0 : c.2.1 12 0 = 116) (h1 : c.2.1 12 1 = 57) : bpN c 2 101 0 = 2 := by
  have n0 : nuA c 2 (nI 0) = 116 := (nu2 h (by decide)).trans h0
  have n1 : nuA c 2 (nI 1) = 57 := (nu2 h (by decide)).trans h1
  have n2 : nuA c 2 (nI 2) = 0 := by
    unfold nuA hpB
    rw [show c.1 (80 + 2) = 2 from h.2.2]
    rfl
  show bpN c 2 (100 + 1) 0 = 2
  unfold bpN
  rw [n0]
  have e : dgC 116 = 2 := by decide
  simp only [e]
  have b0 : biN c 2 0 2 1 = some 2 := by
    unfold biN
    rw [show nI (0 + 1) = nI 1 from rfl, n1]
    rw [if_pos (by decide)]
    unfold biN
    rw [show nI (0 + (1 + 1)) = nI 2 from rfl, n2]
    rw [if_neg (by decide)]
  rw [if_pos (by decide), show tn 2 = 2 from rfl, b0]
  rfl
theorem tl_2 {c : CS} {D : List ab_E} {Q : QT} (h : R2 c) (h0 : c.2.1 12 0 = 116) (h1 : c.2.1 12 1 = 57) : trlR c D Q 2 = -1002 ∧ trlP c D Q 2 = (c, D) := by
  have e : tn 2 = 2 := rfl
  have hr : rfU c 2 2 = 0 := if_pos h.1
  unfold trlR trlP
  have b := bp_2 h h0 h1
  refine ⟨?_, ?_⟩
  · rw [if_pos (by decide), e, if_pos hr, if_pos (show c.1 (70 + 2) = 0 from h.2.1), b, if_neg (by decide)]
    rfl
  · rw [if_pos (by decide), e, if_pos hr, if_pos (show c.1 (70 + 2) = 0 from h.2.1), b, if_neg (by decide)]
