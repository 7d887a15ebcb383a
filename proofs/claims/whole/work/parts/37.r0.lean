/-! the class's state and the reference's -/
def codeY (y : SY) : Int32 := made (nI y.2.1) (nI y.2.2.1) (nI y.2.2.2.1) (nI y.2.2.2.2)
/-- a trial of the class, and its numbers at the reference -/
def TR (nl : Nat) (ql : Nat → SY) (nw ns : Nat) (qs : Nat → SY) (cw ct : Int32) (ck : Nat → Int32) (ml mw ms mt : Int32) (lw kn sy who : Nat → Int32) : Prop :=
  nl ≤ 6 ∧ ns ≤ 10 ∧ nw ≤ 5 ∧ ml = nI nl ∧ ms = nI ns ∧ mw = nI nw ∧ cw = nI nw ∧ ct = mt ∧ (∃ t, t < 64 ∧ mt = nI t) ∧ (∀ i, i < nl → VY (ql i) ∧ lw i = codeY (ql i)) ∧
  (∀ i, i < ns → VY (qs i) ∧ sy i = codeY (qs i) ∧ who i = (qs i).1 ∧ ∃ w, w < nw ∧ (qs i).1 = nI w) ∧ ∀ j, j < nw → kn j = ck j ∧ ∃ b, b < 64 ∧ ck j = nI b
def SR (c : CS) (s : MS) (d : Nat) : Prop := (c.1 (50 + d) = 0 ∧ s.2.1 8 d = 0) ∨
  (c.1 (50 + d) = 1 ∧ s.2.1 8 d = 1 ∧ ∃ k f, k < 8 ∧ f < 10 ∧ c.2.2.2 (10 + d) = .ref (kR k) ∧ c.1 (60 + d) = nI f ∧ s.2.1 9 d = nI k ∧ s.2.1 10 d = nI f) ∨
  (c.1 (50 + d) = 2 ∧ s.2.1 8 d = 2 ∧ ∃ o n, o < 3 ∧ n ≤ 100 ∧ c.1 (70 + d) = nI o ∧ s.2.1 9 d = nI o ∧ c.1 (80 + d) = nI n ∧ s.2.1 10 d = nI n ∧ ∀ i, i < 100 → c.2.1 (10 + d) i = s.2.1 11 (100 * d + i))
abbrev QT : Type := Nat → Nat × (Nat → SY)
def TR0 (c : CS) (Q : QT) (nw : Nat) (s : MS) : Prop := TR (Q (2 * 0)).1 (Q (2 * 0)).2 nw (Q (2 * 0 + 1)).1 (Q (2 * 0 + 1)).2 (c.1 (10 + 0)) (c.1 (20 + 0)) (c.2.1 0) (s.1 1) (s.1 3) (s.1 5) (s.1 0) (s.2.1 2) (s.2.1 4) (s.2.1 6) (s.2.1 7)
def TR1 (c : CS) (Q : QT) (nw : Nat) (s : MS) : Prop := TR (Q (2 * 1)).1 (Q (2 * 1)).2 nw (Q (2 * 1 + 1)).1 (Q (2 * 1 + 1)).2 (c.1 (10 + 1)) (c.1 (20 + 1)) (c.2.1 1) (s.2.1 16 31) (s.2.1 16 32) (s.2.1 16 33) (s.2.1 16 34) (fun i => s.2.1 16 i) (fun i => s.2.1 16 (6 + i)) (fun i => s.2.1 16 (11 + i)) (fun i => s.2.1 16 (21 + i))
def IR (c : CS) (Q : QT) (s : MS) : Prop := (c.1 0 = 0 ∧ s.1 15 = 0) ∨ (c.1 0 = 1 ∧ s.1 15 = 1 ∧ ∃ nw, TR1 c Q nw s)
def KR (c : CS) : Prop := ∀ d, d < 8 → ∃ k, k < 8 ∧ c.2.2.2 (10 + d) = .ref (kR k)
def RS (c : CS) (D : List ab_E) (Q : QT) (nw : Nat) (s : MS) : Prop := GI c D Q ∧ TR0 c Q nw s ∧ IR c Q s ∧ (∀ d, d < 8 → SR c s d) ∧ KR c
theorem rs_w {c : CS} {D : List ab_E} {Q : QT} {nw : Nat} {s : MS} (h : RS c D Q nw s) : c.1 (10 + 0) = nI nw := h.2.1.2.2.2.2.2.2.1
theorem rs_w5 {c : CS} {D : List ab_E} {Q : QT} {nw : Nat} {s : MS} (h : RS c D Q nw s) : nw ≤ 5 := h.2.1.2.2.1
theorem rs_I {c : CS} {D : List ab_E} {Q : QT} {nw : Nat} {s : MS} (h : RS c D Q nw s) : mI s (Q (2 * 0)).1 nw (Q (2 * 0 + 1)).1 :=
  ⟨h.2.1.2.2.2.1, h.2.1.1, h.2.1.2.2.2.2.2.1, h.2.1.2.2.1, h.2.1.2.2.2.2.1, h.2.1.2.1⟩
theorem rs_Sh {c : CS} {D : List ab_E} {Q : QT} {nw : Nat} {s : MS} (h : RS c D Q nw s) : shI s := by
  intro j hj
  rcases h.2.2.2.1 j hj with ⟨-, e⟩ | ⟨-, e, -⟩ | ⟨-, e, o, n, -, hn, -, -, -, e2, -⟩
  · exact ⟨Or.inl e, fun q => by rw [e] at q; exact absurd q (by decide)⟩
  · exact ⟨Or.inr (Or.inl e), fun q => by rw [e] at q; exact absurd q (by decide)⟩
  · exact ⟨Or.inr (Or.inr e), fun _ => ⟨n, hn, e2⟩⟩
theorem rs_R {c : CS} {D : List ab_E} {Q : QT} {nw : Nat} {s : MS} (h : RS c D Q nw s) : rwI c := by
  intro j hj q
  rcases h.2.2.2.1 j hj with ⟨e, -⟩ | ⟨e, -⟩ | ⟨-, -, o, n, -, hn, -, -, e2, -⟩
  · rw [e] at q; exact absurd q (by decide)
  · rw [e] at q; exact absurd q (by decide)
  · exact ⟨n, hn, e2⟩
theorem rs_0 {c : CS} {D : List ab_E} {Q : QT} {nw : Nat} {s : MS} (h : RS c D Q nw s) : cL c D (2 * 0) (Q (2 * 0)).1 (Q (2 * 0)).2 := h.1.1 (2 * 0) (by decide)
theorem rs_1 {c : CS} {D : List ab_E} {Q : QT} {nw : Nat} {s : MS} (h : RS c D Q nw s) : cL c D (2 * 0 + 1) (Q (2 * 0 + 1)).1 (Q (2 * 0 + 1)).2 := h.1.1 (2 * 0 + 1) (by decide)
/-- fewer facts of the reference's state matter -/
theorem TR0_s {c : CS} {Q : QT} {nw : Nat} {s t : MS} (h : TR0 c Q nw s) (h0 : t.1 0 = s.1 0) (h1 : t.1 1 = s.1 1) (h3 : t.1 3 = s.1 3) (h5 : t.1 5 = s.1 5) (a2 : ∀ i, i < 6 → t.2.1 2 i = s.2.1 2 i) (a4 : ∀ i, i < 5 → t.2.1 4 i = s.2.1 4 i) (a6 : ∀ i, i < 10 → t.2.1 6 i = s.2.1 6 i) (a7 : ∀ i, i < 10 → t.2.1 7 i = s.2.1 7 i) : TR0 c Q nw t := by
  obtain ⟨e1, e2, e3, e4, e5, e6, e7, e8, e9, e10, e11, e12⟩ := h
  refine ⟨e1, e2, e3, by rw [h1]; exact e4, by rw [h5]; exact e5, by rw [h3]; exact e6, e7, by rw [h0]; exact e8, by rw [h0]; exact e9, fun i hi => ?_, fun i hi => ?_, fun j hj => ?_⟩
  · rw [a2 i (by omega)]; exact e10 i hi
  · rw [a6 i (by omega), a7 i (by omega)]; exact e11 i hi
  · rw [a4 j (by omega)]; exact e12 j hj
theorem TR1_s {c : CS} {Q : QT} {nw : Nat} {s t : MS} (h : TR1 c Q nw s) (e : t.2.1 16 = s.2.1 16) : TR1 c Q nw t := by
  unfold TR1
  rw [e]
  exact h
theorem SR_s {c : CS} {s t : MS} {d : Nat} (h : SR c s d) (h8 : t.2.1 8 d = s.2.1 8 d) (h9 : t.2.1 9 d = s.2.1 9 d) (h10 : t.2.1 10 d = s.2.1 10 d) (h11 : ∀ i, i < 100 → t.2.1 11 (100 * d + i) = s.2.1 11 (100 * d + i)) : SR c t d := by
  unfold SR
  rw [h8, h9, h10]
  rcases h with h | h | ⟨h1, h2, o, n, h3, h4, h5, h6, h7, hh8, hh9⟩
  · exact Or.inl h
  · exact Or.inr (Or.inl h)
  · exact Or.inr (Or.inr ⟨h1, h2, o, n, h3, h4, h5, h6, h7, hh8, fun i hi => by rw [h11 i hi]; exact hh9 i hi⟩)
theorem RS_s {c : CS} {D : List ab_E} {Q : QT} {nw : Nat} {s t : MS} (h : RS c D Q nw s) (h0 : t.1 0 = s.1 0) (h1 : t.1 1 = s.1 1) (h3 : t.1 3 = s.1 3) (h5 : t.1 5 = s.1 5) (h15 : t.1 15 = s.1 15) (a2 : ∀ i, i < 6 → t.2.1 2 i = s.2.1 2 i) (a4 : ∀ i, i < 5 → t.2.1 4 i = s.2.1 4 i) (a6 : ∀ i, i < 10 → t.2.1 6 i = s.2.1 6 i) (a7 : ∀ i, i < 10 → t.2.1 7 i = s.2.1 7 i)
    (a8 : t.2.1 8 = s.2.1 8) (a9 : t.2.1 9 = s.2.1 9) (a10 : t.2.1 10 = s.2.1 10) (a11 : t.2.1 11 = s.2.1 11) (a16 : t.2.1 16 = s.2.1 16) : RS c D Q nw t :=
  ⟨h.1, TR0_s h.2.1 h0 h1 h3 h5 a2 a4 a6 a7, by
    rcases h.2.2.1 with ⟨e1, e2⟩ | ⟨e1, e2, nw1, e3⟩
    · exact Or.inl ⟨e1, h15.trans e2⟩
    · exact Or.inr ⟨e1, h15.trans e2, nw1, TR1_s e3 a16⟩, fun d hd => SR_s (h.2.2.2.1 d hd) (by rw [a8]) (by rw [a9]) (by rw [a10]) (fun i _ => by rw [a11]), h.2.2.2.2⟩
