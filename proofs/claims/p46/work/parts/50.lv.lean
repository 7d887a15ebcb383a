/-! what holds along the law -/
def SZ (m : Nat) (D : List ab_E) : Prop := D.length ≤ 100 * m ∧ ab_sz D ≤ 1000 * m
theorem SZ_up {m : Nat} {D E : List ab_E} (h : SZ m D) (u : upD 100 1000 D E) : SZ (m + 1) E := up100 u h.1 h.2
theorem SZ_le {m n : Nat} {D : List ab_E} (h : SZ m D) (l : m ≤ n) : SZ n D := ⟨Nat.le_trans h.1 (Nat.mul_le_mul_left 100 l), Nat.le_trans h.2 (Nat.mul_le_mul_left 1000 l)⟩
/-- the row told on shelf 2, as element reads it -/
def RX (c : CS) : Prop := R2 c ∧ c.2.1 12 1 = 57
section
variable {c e : CS} {D E : List ab_E} {Q Q2 : QT} {nw nv m : Nat} {nl ns : Nat × (Nat → SY)} {T : Int32} {kn : Nat → Int32}
theorem KP_fs (h : KP c Q nl ns nv T kn) (f : frS c e) (e0 : Q2 (2 * 1) = Q (2 * 1)) (e1 : Q2 (2 * 1 + 1) = Q (2 * 1 + 1)) : KP e Q2 nl ns nv T kn :=
  ⟨(f.1 _ (Or.inl (by decide))).trans h.1, (f.1 _ (Or.inl (by decide))).trans h.2.1, (f.1 _ (Or.inl (by decide))).trans h.2.2.1, fun j hj => (congrFun (f.2.1 1) j).trans (h.2.2.2.1 j hj), e0.trans h.2.2.2.2.1, e1.trans h.2.2.2.2.2⟩
theorem KP_c (h : KP c Q nl ns nv T kn) (f0 : e.1 0 = c.1 0) (f1 : e.1 (10 + 1) = c.1 (10 + 1)) (f2 : e.1 (20 + 1) = c.1 (20 + 1)) (f3 : e.2.1 1 = c.2.1 1) : KP e Q nl ns nv T kn :=
  ⟨f0.trans h.1, f1.trans h.2.1, f2.trans h.2.2.1, fun j hj => (congrFun f3 j).trans (h.2.2.2.1 j hj), h.2.2.2.2.1, h.2.2.2.2.2⟩
theorem KP_hs {d k : Nat} {f : Int32} (h : KP c Q nl ns nv T kn) : KP (hsP c d k f) Q nl ns nv T kn := KP_c h (hs_1 (by omega) (by omega)) (hs_1 (by omega) (by omega)) (hs_1 (by omega) (by omega)) rfl
theorem RX_fs (h : RX c) (f : frS c e) : RX e := ⟨⟨(f.1 _ (Or.inr (by decide))).trans h.1.1, (f.1 _ (Or.inr (by decide))).trans h.1.2.1, (f.1 _ (Or.inr (by decide))).trans h.1.2.2⟩, (congrFun (f.2.1 12) 1).trans h.2⟩
theorem RX_c (h : RX c) (f1 : ∀ k, 50 ≤ k → k ≠ 51 → k ≠ 61 → e.1 k = c.1 k) (f2 : e.2.1 12 = c.2.1 12) : RX e := ⟨⟨(f1 _ (by decide) (by decide) (by decide)).trans h.1.1, (f1 _ (by decide) (by decide) (by decide)).trans h.1.2.1, (f1 _ (by decide) (by decide) (by decide)).trans h.1.2.2⟩, (congrFun f2 1).trans h.2⟩
theorem RX_hs {k : Nat} {f : Int32} (h : RX c) : RX (hsP c 1 k f) := RX_c h (fun _ _ h1 h2 => hs_1 h1 h2) rfl
theorem SameT_hs {c0 : CS} {Q0 : QT} {d k : Nat} {f : Int32} (h : SameT c0 Q0 c Q) : SameT c0 Q0 (hsP c d k f) Q := ⟨(hs_1 (by omega) (by omega)).trans h.1, h.2.1, h.2.2.1, h.2.2.2⟩
end
/-- between two calls of the law where nothing has changed of the trial -/
def LV (c0 : CS) (Q0 : QT) (nw T m : Nat) (c : CS) (D : List ab_E) (Q : QT) : Prop := PI c D Q nw ∧ SameT c0 Q0 c Q ∧ KP c Q (Q0 (2 * 0)) (Q0 (2 * 0 + 1)) nw (nI T) (c0.2.1 0) ∧ SZ m D
/-- the law's row -/
def LB (c : CS) (Q : QT) (nw T : Nat) (f : Nat → Int32) : Prop := f 0 = nI (Q (2 * 0)).1 ∧ f 1 = nI nw ∧ f 2 = nI (Q (2 * 0 + 1)).1 ∧ f 3 = nI T ∧ T < 64 ∧ c.1 (20 + 0) = nI T ∧ ∀ j, j < nw → f (10 + j) = c.2.1 0 j
theorem LB_s {c0 c : CS} {Q0 Q : QT} {nw T : Nat} {f : Nat → Int32} (h : LB c0 Q0 nw T f) (s : SameT c0 Q0 c Q) (h5 : nw ≤ 5) : LB c Q nw T f := by
  obtain ⟨s1, s2, s3, s4⟩ := s
  obtain ⟨h1, h2, h3, h4, h6, h7, h8⟩ := h
  exact ⟨by rw [s3]; exact h1, h2, by rw [s4]; exact h3, h4, h6, s1.trans h7, fun j hj => (h8 j hj).trans (s2 j (by omega)).symm⟩
/-- behind the world -/
theorem w_LB {L : Nat} {xs : Nat → Int32} {c : CS} {Q : QT} (h : PI c [] Q 0) (h0 : (Q (2 * 0)).1 = 0) (h1 : (Q (2 * 0 + 1)).1 = 0) : ∃ Q0 T, PI (w3S L xs c []).1 (w3S L xs c []).2.1 Q0 (wnN L xs) ∧ LB (w3S L xs c []).1 Q0 (wnN L xs) T (w3S L xs c []).2.2 ∧ SZ 16 (w3S L xs c []).2.1 := by
  have i3 := W3a (L := L) (xs := xs) h h0 h1 rfl _ (Nat.le_refl _)
  have e : acc (w3G L xs) (w2S L xs c []) (wsN L xs) = w3S L xs c [] := by unfold w3S; rfl
  rw [e] at i3
  obtain ⟨Q0, a1, a2, a3, a4, a5, a6, a7, a8, a9, a10⟩ := i3
  obtain ⟨t, t1, t2⟩ := a1.2.2.2.2.1
  have k1 := (wl_r L xs).1
  have k2 := (ws_r L xs).1
  have hs : SZ (wlN L xs + wsN L xs) (w3S L xs c []).2.1 := ⟨a9, a10⟩
  exact ⟨Q0, t, a1, ⟨a2, a3, a4, a5.trans t2, t1, t2, a6⟩, SZ_le hs (by omega)⟩
theorem up_u0 (D : List ab_E) : upD 100 1000 D D := up_le (up_rf D) (by decide) (by decide)
/-- the image: the trial is kept -/
theorem lv_im {c0 : CS} {D0 : List ab_E} {Q0 : QT} {nw T m : Nat} {f : Nat → Int32} (h : PI c0 D0 Q0 nw) (hb : LB c0 Q0 nw T f) (hz : SZ m D0) : LV c0 Q0 nw T (m + 1) (imgP c0 D0 Q0).1 (imgP c0 D0 Q0).2 (beQ 1 0 Q0) := by
  obtain ⟨a1, a2, a3, a4, a5, a6, -⟩ := im_e h
  rw [hb.2.2.2.2.2.1] at a4
  exact ⟨a1, ⟨a5, fun j hj => congrFun a6 j, a2, a3⟩, a4, SZ_up hz (up_img h.1)⟩
theorem lv_hs {c0 c : CS} {D : List ab_E} {Q0 Q : QT} {nw T m k : Nat} {f : Int32} (h : LV c0 Q0 nw T m c D Q) (hk : k < 8) : LV c0 Q0 nw T m (hsP c 1 k f) D Q := ⟨PI_kp h.1 (by decide) hk, SameT_hs h.2.1, KP_hs h.2.2.1, h.2.2.2⟩
theorem lv_sh2 {c0 c e : CS} {D : List ab_E} {Q0 Q : QT} {nw T m : Nat} (h : LV c0 Q0 nw T m c D Q) (f : sh2 c e) (hr : e.1 52 = 2 → ∃ n, n ≤ 100 ∧ e.1 82 = nI n) : LV c0 Q0 nw T m e D Q :=
  ⟨PI_sh2 h.1 f hr, ⟨(f.1 _ (by decide) (by decide) (by decide)).trans h.2.1.1, fun j hj => (congrFun (f.2.1 0 (by decide)) j).trans (h.2.1.2.1 j hj), h.2.1.2.2.1, h.2.1.2.2.2⟩, KP_c h.2.2.1 (f.1 _ (by decide) (by decide) (by decide)) (f.1 _ (by decide) (by decide) (by decide)) (f.1 _ (by decide) (by decide) (by decide)) (f.2.1 1 (by decide)), h.2.2.2⟩
theorem lv_sum {c0 c : CS} {D0 D : List ab_E} {Q0 Q : QT} {nw T m : Nat} (h : LV c0 Q0 nw T m c D Q) (h0 : PI c0 D0 Q0 nw) : toF c Q nw = toF c0 Q0 nw := toF_e h.1 h0 h.2.1
