/-! what holds of the class between two calls; each change by its own row -/
def PI (c : CS) (D : List ab_E) (Q : QT) (nw : Nat) : Prop := GI c D Q ∧ c.1 (10 + 0) = nI nw ∧ nw ≤ 5 ∧ (Q (2 * 0)).1 ≤ 6 ∧ (∃ t, t < 64 ∧ c.1 (20 + 0) = nI t) ∧
  (∀ i, i < (Q (2 * 0 + 1)).1 → ∃ w, w < nw ∧ ((Q (2 * 0 + 1)).2 i).1 = nI w) ∧ (∀ j, j < nw → ∃ b, b < 64 ∧ c.2.1 0 j = nI b) ∧ KR c ∧ rwI c
/-- shelf d holds a saying of kind k with figure f -/
def shS (c : CS) (d k f : Nat) : Prop := c.1 (50 + d) = 1 ∧ c.2.2.2 (10 + d) = .ref (kR k) ∧ c.1 (60 + d) = nI f
theorem rw_fs {c e : CS} (f : frS c e) (h : rwI c) : rwI e := fun d hd q => by
  rw [f.1 (50 + d) (Or.inr (by omega))] at q
  obtain ⟨n, hn, z⟩ := h d hd q
  exact ⟨n, hn, (f.1 (80 + d) (Or.inr (by omega))).trans z⟩
theorem shS_fs {c e : CS} {d k g : Nat} (f : frS c e) (h : shS c d k g) : shS e d k g := ⟨(f.1 _ (Or.inr (by omega))).trans h.1, (f.2.2 _ (by omega)).trans h.2.1, (f.1 _ (Or.inr (by omega))).trans h.2.2⟩
theorem PI_fs {c e : CS} {D E : List ab_E} {Q Q2 : QT} {nw : Nat} (h : PI c D Q nw) (f : frS c e) (g : GI e E Q2) (hl : (Q2 (2 * 0)).1 ≤ 6) (ht : ∀ i, i < (Q2 (2 * 0 + 1)).1 → ∃ w, w < nw ∧ ((Q2 (2 * 0 + 1)).2 i).1 = nI w) : PI e E Q2 nw := by
  obtain ⟨h1, h2, h3, h4, ⟨t, t1, t2⟩, h6, h7, h8, h9⟩ := h
  exact ⟨g, (f.1 _ (Or.inl (by omega))).trans h2, h3, hl, ⟨t, t1, (f.1 _ (Or.inl (by omega))).trans t2⟩, ht, fun j hj => by rw [f.2.1 0]; exact h7 j hj, KR_fr (fr_fs f) h8, rw_fs f h9⟩
theorem iw7 : ∀ d, d < 8 → iw (nI d) 0 7 = true := by decide
theorem iwF9 : ∀ f, f < 10 → iw (nI f) 0 9 = true := by decide
theorem inB6n : ∀ a, a < 6 → inB (nI a) 6 = true := by decide
theorem inB64n : ∀ a, a < 64 → inB (nI a) 64 = true := by decide
theorem afBn : ∀ a, a < 64 → afB (nI a) = true := by decide
theorem tn8 {d : Nat} (h : d < 1000) : tn (nI d) = d := tn_nI (by omega)
/-- keep: a saying on a shelf -/
theorem kp_e {c : CS} {d k f : Nat} (hd : d < 8) (hk : k < 8) (hf : f < 10) : kepP c (nI d) 1 (nI k) (nI f) = hsP c d k (nI f) ∧ kepR (nI d) 1 (nI k) (nI f) = 0 := by
  unfold kepP kepR
  rw [if_pos (iw7 d hd), if_pos (by decide), if_neg (by decide), if_pos (iw7 k hk), if_pos (iwF9 f hf), if_pos (iw7 d hd), if_pos (by decide), if_neg (by decide), if_pos (iw7 k hk), if_pos (iwF9 f hf), tn8 (by omega), tn8 (by omega)]
  exact ⟨rfl, rfl⟩
theorem hs_1 {c : CS} {d k j : Nat} {f : Int32} (h1 : j ≠ 50 + d) (h2 : j ≠ 60 + d) : (hsP c d k f).1 j = c.1 j := by
  show upd (upd c.1 (50 + d) 1) (60 + d) f j = _
  rw [pk_un h2, pk_un h1]
theorem hs_4 {c : CS} {d k j : Nat} {f : Int32} (h : j ≠ 10 + d) : (hsP c d k f).2.2.2 j = c.2.2.2 j := if_neg h
theorem hs_S {c : CS} {d k f : Nat} : shS (hsP c d k (nI f)) d k f := by
  refine ⟨?_, if_pos rfl, pk_us⟩
  show upd (upd c.1 (50 + d) 1) (60 + d) _ (50 + d) = _
  rw [pk_un (by omega), pk_us]
theorem PI_kp {c : CS} {D : List ab_E} {Q : QT} {nw d k : Nat} {f : Int32} (h : PI c D Q nw) (hd : d < 8) (hk : k < 8) : PI (hsP c d k f) D Q nw := by
  obtain ⟨h1, h2, h3, h4, ⟨t, t1, t2⟩, h6, h7, h8, h9⟩ := h
  refine ⟨GI_c h1 (fun l hl => hs_1 (by omega) (by omega)) (fun l hl => hs_4 (by omega)), (hs_1 (by omega) (by omega)).trans h2, h3, h4, ⟨t, t1, (hs_1 (by omega) (by omega)).trans t2⟩, h6, h7, fun j hj => ?_, fun j hj q => ?_⟩
  · by_cases e : j = d
    · subst e; exact ⟨k, hk, if_pos rfl⟩
    · obtain ⟨k2, hk2, z⟩ := h8 j hj
      exact ⟨k2, hk2, (hs_4 (by omega)).trans z⟩
  · by_cases e : j = d
    · subst e
      have z := (hs_S (c := c) (d := j) (k := k) (f := 0)).1
      have z2 : (hsP c j k f).1 (50 + j) = 1 := by
        show upd (upd c.1 (50 + j) 1) (60 + j) _ (50 + j) = _
        rw [pk_un (by omega), pk_us]
      rw [z2] at q
      exact absurd q (by decide)
    · rw [hs_1 (by omega) (by omega)] at q
      obtain ⟨n, hn, z⟩ := h9 j hj q
      exact ⟨n, hn, (hs_1 (by omega) (by omega)).trans z⟩
theorem rf_S {c : CS} {d k f : Nat} (h : shS c d k f) : rfU c d 1 = 0 := if_pos h.1
theorem sk_S {c : CS} {d k f : Nat} (h : shS c d k f) (hk : k < 8) : skc c d = k := by
  unfold skc
  rw [h.2.1]
  have e : ∀ k, k < 8 → (match (Value.ref (kR k)) with | .ref a => if a = 17 then 0 else a - 18 | _ => 0) = k := by decide
  first | exact e k hk | (rcases (by omega : k = 0 ∨ k = 1 ∨ k = 2 ∨ k = 3 ∨ k = 4 ∨ k = 5 ∨ k = 6 ∨ k = 7) with rfl | rfl | rfl | rfl | rfl | rfl | rfl | rfl <;> rfl)
/-- a list that grows by one -/
def gQ (Q : QT) (l : Nat) (y : SY) : QT := upQ Q l ((Q l).1 + 1) (fun i => if i = (Q l).1 then y else (Q l).2 i)
theorem gQ_n {Q : QT} {l k : Nat} {y : SY} (h : k ≠ l) : gQ Q l y k = Q k := upQ_ne h
theorem gQ_1 {Q : QT} {l : Nat} {y : SY} : (gQ Q l y l).1 = (Q l).1 + 1 := congrArg Prod.fst upQ_eq
theorem gQ_2 {Q : QT} {l i : Nat} {y : SY} : (gQ Q l y l).2 i = if i = (Q l).1 then y else (Q l).2 i := congrFun (congrArg Prod.snd upQ_eq) i
/-- rules: a law more -/
theorem ru_e {c : CS} {D : List ab_E} {Q : QT} {nw d k f a b : Nat} (h : PI c D Q nw) (hd : d < 8) (hk : k < 8) (hf : f < 10) (hs : shS c d k f) (ha : a < 6) (hb : b < 6) (hn : (Q (2 * 0)).1 < 6) :
    rulR c (Q (2 * 0)).1 (nI d) (nI a) (nI b) = nI (Q (2 * 0)).1 ∧ frS c (rulP c D (Q (2 * 0)).1 (nI d) (nI a) (nI b)).1 ∧ PI (rulP c D (Q (2 * 0)).1 (nI d) (nI a) (nI b)).1 (rulP c D (Q (2 * 0)).1 (nI d) (nI a) (nI b)).2 (gQ Q (2 * 0) (-4, k, f, a, b)) nw := by
  have e : rulP c D (Q (2 * 0)).1 (nI d) (nI a) (nI b) = adP (2 * 0) (43 + D.length) (c, D ++ [.inr (8, syF (-4, k, f, a, b))]) := by
    unfold rulP
    rw [if_pos (iw7 d hd), if_pos (inB6n a ha), if_pos (inB6n b hb), tn8 (by omega), if_pos (rf_S hs), if_pos hn, nsD, tn8 (by omega), sk_S hs hk, hs.2.2, ns_syF]
  have f1 := fs_ad (l := 2 * 0) (r := 43 + D.length) (p := (c, D ++ [.inr (8, syF (-4, k, f, a, b))])) (by decide)
  have g := GI_ad (y := (-4, k, f, a, b)) (r := D.length) (GI_app (.inr (8, syF (-4, k, f, a, b))) h.1) (l := 2 * 0) (by decide) (by omega) ga_n ⟨hk, hf, ha, hb⟩
  refine ⟨?_, by rw [e]; exact f1, ?_⟩
  · unfold rulR
    rw [if_pos (iw7 d hd), if_pos (inB6n a ha), if_pos (inB6n b hb), tn8 (by omega), if_pos (rf_S hs), if_pos hn]
  · rw [e]
    refine PI_fs h f1 g ?_ ?_
    · rw [gQ_1]; omega
    · rw [gQ_n (by decide)]; exact h.2.2.2.2.2.1
theorem hw_in {c : CS} {nw w : Nat} (h : c.1 (10 + 0) = nI nw) (h5 : nw ≤ 5) (hw : w < nw) : hwT c 0 (nI w) = true := by
  unfold hwT
  rw [h, decide_eq_false (nI_pos (by omega)), decide_eq_false (fun q => by have := (nI_leI (by omega) (by omega)).mp q; omega)]
  rfl
/-- says: a saying more -/
theorem sa_e {c : CS} {D : List ab_E} {Q : QT} {nw w d k f a b : Nat} (h : PI c D Q nw) (hw : w < nw) (hd : d < 8) (hk : k < 8) (hf : f < 10) (hs : shS c d k f) (ha : a < 6) (hb : b < 6) (hn : (Q (2 * 0 + 1)).1 < 10) :
    sayR c (Q (2 * 0 + 1)).1 (nI w) (nI d) (nI a) (nI b) = nI (Q (2 * 0 + 1)).1 ∧ frS c (sayP c D (Q (2 * 0 + 1)).1 (nI w) (nI d) (nI a) (nI b)).1 ∧ PI (sayP c D (Q (2 * 0 + 1)).1 (nI w) (nI d) (nI a) (nI b)).1 (sayP c D (Q (2 * 0 + 1)).1 (nI w) (nI d) (nI a) (nI b)).2 (gQ Q (2 * 0 + 1) (nI w, k, f, a, b)) nw := by
  have hww := hw_in h.2.1 h.2.2.1 hw
  have e : sayP c D (Q (2 * 0 + 1)).1 (nI w) (nI d) (nI a) (nI b) = adP (2 * 0 + 1) (43 + D.length) (c, D ++ [.inr (8, syF (nI w, k, f, a, b))]) := by
    unfold sayP
    rw [if_pos (iw7 d hd), if_pos hww, if_pos (inB6n a ha), if_pos (inB6n b hb), tn8 (by omega), if_pos (rf_S hs), if_pos hn, nsD, tn8 (by omega), sk_S hs hk, hs.2.2, ns_syF]
  have f1 := fs_ad (l := 2 * 0 + 1) (r := 43 + D.length) (p := (c, D ++ [.inr (8, syF (nI w, k, f, a, b))])) (by decide)
  have g := GI_ad (y := (nI w, k, f, a, b)) (r := D.length) (GI_app (.inr (8, syF (nI w, k, f, a, b))) h.1) (l := 2 * 0 + 1) (by decide) hn ga_n ⟨hk, hf, ha, hb⟩
  refine ⟨?_, by rw [e]; exact f1, ?_⟩
  · unfold sayR
    rw [if_pos (iw7 d hd), if_pos hww, if_pos (inB6n a ha), if_pos (inB6n b hb), tn8 (by omega), if_pos (rf_S hs), if_pos hn]
  · rw [e]
    refine PI_fs h f1 g ?_ (fun i hi => ?_)
    · rw [gQ_n (by decide)]; exact h.2.2.2.1
    · rw [gQ_1] at hi
      rw [gQ_2]
      by_cases q : i = (Q (2 * 0 + 1)).1
      · rw [if_pos q]; exact ⟨w, hw, rfl⟩
      · rw [if_neg q]; exact h.2.2.2.2.2.1 i (by omega)
/-- says where ten are said: refused, but the saying was made -/
theorem sa_10 {c : CS} {D : List ab_E} {Q : QT} {nw w d k f a b : Nat} (h : PI c D Q nw) (hw : w < nw) (hd : d < 8) (hk : k < 8) (hs : shS c d k f) (ha : a < 6) (hb : b < 6) (hn : (Q (2 * 0 + 1)).1 = 10) :
    sayR c (Q (2 * 0 + 1)).1 (nI w) (nI d) (nI a) (nI b) = -2 ∧ (sayP c D (Q (2 * 0 + 1)).1 (nI w) (nI d) (nI a) (nI b)).1 = c ∧ PI c (sayP c D (Q (2 * 0 + 1)).1 (nI w) (nI d) (nI a) (nI b)).2 Q nw := by
  have hww := hw_in h.2.1 h.2.2.1 hw
  have e : sayP c D (Q (2 * 0 + 1)).1 (nI w) (nI d) (nI a) (nI b) = (c, D ++ [nsD c (nI w) (nI d) (nI a) (nI b)]) := by
    unfold sayP
    rw [if_pos (iw7 d hd), if_pos hww, if_pos (inB6n a ha), if_pos (inB6n b hb), tn8 (by omega), if_pos (rf_S hs), if_neg (by omega)]
  rw [e]
  refine ⟨?_, rfl, ?_⟩
  · unfold sayR
    rw [if_pos (iw7 d hd), if_pos hww, if_pos (inB6n a ha), if_pos (inB6n b hb), tn8 (by omega), if_pos (rf_S hs), if_neg (by omega)]
  · exact PI_fs h (fs_rf c) (GI_app _ h.1) h.2.2.2.1 h.2.2.2.2.2.1
/-- unsays: the last is gone -/
theorem un_e {c : CS} {D : List ab_E} {Q : QT} {nw n : Nat} (h : PI c D Q nw) (hn : (Q (2 * 0 + 1)).1 = n + 1) : unsR (Q (2 * 0 + 1)).1 = nI n ∧ frS c (unsP c D (Q (2 * 0 + 1)).1).1 ∧ PI (unsP c D (Q (2 * 0 + 1)).1).1 (unsP c D (Q (2 * 0 + 1)).1).2 (upQ Q (2 * 0 + 1) n (Q (2 * 0 + 1)).2) nw := by
  have e : unsP c D (Q (2 * 0 + 1)).1 = rmP (2 * 0 + 1) (c, D) := if_neg (by omega)
  have f1 := fs_rm (l := 2 * 0 + 1) (p := (c, D)) (by decide)
  have g := GI_rm (l := 2 * 0 + 1) h.1 (by decide) hn
  rw [e]
  refine ⟨?_, f1, PI_fs h f1 g ?_ (fun i hi => ?_)⟩
  · unfold unsR
    rw [hn, if_neg (by omega)]
    rfl
  · rw [upQ_ne (by decide)]; exact h.2.2.2.1
  · rw [upQ_eq] at hi ⊢
    exact h.2.2.2.2.2.1 i (by omega)
/-- a row of numbers may be told anew where it is the same as far as it counts -/
theorem PI_q {c : CS} {D : List ab_E} {Q Q2 : QT} {nw : Nat} (h : PI c D Q nw) (e : ∀ l, l < 6 → (Q2 l).1 = (Q l).1 ∧ ∀ i, i < (Q l).1 → (Q2 l).2 i = (Q l).2 i) : PI c D Q2 nw := by
  obtain ⟨h1, h2, h3, h4, h5, h6, h7, h8, h9⟩ := h
  have e0 := e (2 * 0) (by decide)
  have e1 := e (2 * 0 + 1) (by decide)
  refine ⟨GI_q h1 e, h2, h3, by rw [e0.1]; exact h4, h5, fun i hi => ?_, h7, h8, h9⟩
  rw [e1.1] at hi
  rw [e1.2 i hi]
  exact h6 i hi
