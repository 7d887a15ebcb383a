/-- a state of the class: its own cells, and what is behind the reference -/
abbrev CD : Type := CS × List ab_E
def arrF (x : Option ab_E) : Nat → Option Nat := match x with
  | some (.inl (_, _, .inr (.inr (.inr (.inr f))))) => f
  | _ => fun _ => none
def setL (c : CS) (l : Nat) (m n : Int32) (v : Value) : CS := cu4 (cu1 (cu1 c (40 + l) m) (30 + l) n) l v
def adP (l r : Nat) (p : CD) : CD := match p.1.2.2.2 l with
  | .ref a => (setL p.1 l (p.1.1 (40 + l) + 1) (p.1.1 (30 + l) + 1) (.ref a), p.2.set (a - 43) (.inl (2, 10, .inr (.inr (.inr (.inr (va_up (arrF p.2[a - 43]?) (tn (p.1.1 (30 + l))) (some r))))))))
  | _ => (setL p.1 l (p.1.1 (40 + l) + 1) 1 (.ref (43 + p.2.length)), p.2 ++ [.inl (2, 10, .inr (.inr (.inr (.inr (va_up (fun _ => none) 0 (some r))))))])
def clP (l : Nat) (p : CD) : CD := match p.1.2.2.2 l with
  | .ref a => (setL p.1 l (p.1.1 (40 + l) + 1) 0 (.ref a), p.2.set (a - 43) (.inl (2, 10, .inr (.inr (.inr (.inr (clF (arrF p.2[a - 43]?) (tn (p.1.1 (30 + l))))))))))
  | v => (setL p.1 l (p.1.1 (40 + l) + 1) 0 v, p.2)
def rmP (l : Nat) (p : CD) : CD := match p.1.2.2.2 l with
  | .ref a => (setL p.1 l (p.1.1 (40 + l) + 1) (p.1.1 (30 + l) - 1) (.ref a), p.2.set (a - 43) (.inl (2, 10, .inr (.inr (.inr (.inr (va_up (arrF p.2[a - 43]?) (tn (p.1.1 (30 + l) - 1)) none)))))))
  | _ => p
theorem adP_0 {l r : Nat} {c : CS} {D : List ab_E} (h : c.2.2.2 l = .float 0) : adP l r (c, D) = (setL c l (c.1 (40 + l) + 1) 1 (.ref (43 + D.length)), D ++ [.inl (2, 10, .inr (.inr (.inr (.inr (va_up (fun _ => none) 0 (some r))))))]) := by
  unfold adP
  simp only [h]
theorem adP_1 {l r n e : Nat} {f : Nat → Option Nat} {c : CS} {D : List ab_E} (h : c.2.2.2 l = .ref (43 + e)) (hD : D[e]? = some (.inl (2, 10, .inr (.inr (.inr (.inr (f))))))) (hn : c.1 (30 + l) = nI n) (hn2 : n ≤ 10) : adP l r (c, D) = (setL c l (c.1 (40 + l) + 1) (nI (n + 1)) (.ref (43 + e)), D.set e (.inl (2, 10, .inr (.inr (.inr (.inr (va_up f n (some r)))))))) := by
  unfold adP
  simp only [h, Nat.add_sub_cancel_left, hD, arrF, hn, nI_1, tn_nI (show n < 2147483648 by omega)]
theorem clP_0 {l : Nat} {c : CS} {D : List ab_E} (h : c.2.2.2 l = .float 0) : clP l (c, D) = (setL c l (c.1 (40 + l) + 1) 0 (.float 0), D) := by
  unfold clP
  simp only [h]
theorem clP_1 {l n e : Nat} {f : Nat → Option Nat} {c : CS} {D : List ab_E} (h : c.2.2.2 l = .ref (43 + e)) (hD : D[e]? = some (.inl (2, 10, .inr (.inr (.inr (.inr (f))))))) (hn : c.1 (30 + l) = nI n) (hn2 : n ≤ 10) : clP l (c, D) = (setL c l (c.1 (40 + l) + 1) 0 (.ref (43 + e)), D.set e (.inl (2, 10, .inr (.inr (.inr (.inr (clF f n))))))) := by
  unfold clP
  simp only [h, Nat.add_sub_cancel_left, hD, arrF, hn, tn_nI (show n < 2147483648 by omega)]
theorem rmP_1 {l n e : Nat} {f : Nat → Option Nat} {c : CS} {D : List ab_E} (h : c.2.2.2 l = .ref (43 + e)) (hD : D[e]? = some (.inl (2, 10, .inr (.inr (.inr (.inr (f))))))) (hn : c.1 (30 + l) = nI (n + 1)) (hn2 : n ≤ 10) : rmP l (c, D) = (setL c l (c.1 (40 + l) + 1) (nI n) (.ref (43 + e)), D.set e (.inl (2, 10, .inr (.inr (.inr (.inr (va_up f n none))))))) := by
  unfold rmP
  simp only [h, Nat.add_sub_cancel_left, hD, arrF, hn, nI_pred, tn_nI (show n < 2147483648 by omega)]
theorem alR_lt {l : Nat} : alR l < 43 := by
  unfold alR
  split <;> decide
theorem cg_b {c : CS} {M D : List ab_E} {l : Nat} {v : Value} {n : Int32} (hl : l < 6) (hv : c.2.2.2 l = v) (hn : c.1 (30 + l) = n) : (cH c M D)[alR l]? = some (.inr (0, [.int (c.1 (40 + l)), v, .int n])) := by
  subst hv hn
  exact cg_al hl
theorem al_ne {c : CS} {M D : List ab_E} {l r : Nat} {fs : List Value} (hl : l < 6) (hr : (cH c M D)[r]? = some (.inr (8, fs))) : alR l ≠ r := by
  intro e
  have z := cg_al (c := c) (M := M) (D := D) hl
  rw [e, hr] at z
  unfold cAl at z
  have z2 := Option.some.inj z
  exact absurd (show (8 : Nat) = 0 from congrArg Prod.fst (Sum.inr.inj z2)) (by decide)
/-- a saying comes to a list -/
theorem cP_add {G : ab_G} (hG : ab_GG G) {c : CS} {M D : List ab_E} (hM : M.length = 1) {l n r : Nat} {q : Nat → SY} {fs : List Value} (hl : l < 6) (hL : cL c D l n q) (hn : n < 10) (hr : (cH c M D)[r]? = some (.inr (8, fs))) : ab_CM G mJx4a65c_add_9ea2d [.ref (alR l), .ref r] (cH c M D) (some (.int 1)) (cH (adP l r (c, D)).1 M (adP l r (c, D)).2) := by
  obtain ⟨h1, h2, h3, h4⟩ := hL
  rcases h3 with ⟨rfl, hv⟩ | ⟨e, f, hv, hD, -⟩
  · have z := al_add0 hG (cg_b (M := M) (D := D) hl hv h1) hr rfl tw_949 (al_ne hl hr)
    rw [cD_app, cs_al hl, cD_new hM] at z
    rw [adP_0 hv]
    exact z
  · have z := al_add hG (cg_b (M := M) (D := D) hl hv h1) (cD_get hM hD) hn hr rfl tw_949 (by have := alR_lt (l := l); omega) (al_ne hl hr)
    rw [cD_set hM, cs_al hl] at z
    rw [adP_1 hv hD h1 h2]
    exact z
theorem cP_clear {G : ab_G} (hG : ab_GG G) {c : CS} {M D : List ab_E} (hM : M.length = 1) {l n : Nat} {q : Nat → SY} (hl : l < 6) (hL : cL c D l n q) : ab_CM G mJx4a65c_clear_da8c8 [.ref (alR l)] (cH c M D) none (cH (clP l (c, D)).1 M (clP l (c, D)).2) := by
  obtain ⟨h1, h2, h3, h4⟩ := hL
  rcases h3 with ⟨rfl, hv⟩ | ⟨e, f, hv, hD, -⟩
  · have z := al_clear0 hG (cg_b (M := M) (D := D) hl hv h1)
    rw [cs_al hl] at z
    rw [clP_0 hv]
    exact z
  · have z := al_clear hG (cg_b (M := M) (D := D) hl hv h1) (cD_get hM hD) h2 (by have := alR_lt (l := l); omega)
    rw [cs_al hl, cD_set hM] at z
    rw [clP_1 hv hD h1 h2]
    exact z
theorem cP_remove {G : ab_G} (hG : ab_GG G) {c : CS} {M D : List ab_E} (hM : M.length = 1) {l n : Nat} {q : Nat → SY} (hl : l < 6) (hL : cL c D l (n + 1) q) : ∃ r, ab_CM G mJx4a65c_remove_915e3 [.ref (alR l), .int (nI n)] (cH c M D) (some (.ref r)) (cH (rmP l (c, D)).1 M (rmP l (c, D)).2) := by
  obtain ⟨h1, h2, h3, h4⟩ := hL
  rcases h3 with ⟨h, -⟩ | ⟨e, f, hv, hD, hf⟩
  · omega
  · obtain ⟨r, hr, -⟩ := hf n (by omega)
    have z := al_remove hG (cg_b (M := M) (D := D) hl hv h1) (cD_get hM hD) (by omega) (by have := alR_lt (l := l); omega) hr
    rw [cs_al hl, cD_set hM] at z
    rw [rmP_1 hv hD h1 (by omega)]
    exact ⟨_, z⟩
/-- all lists: what each holds; their arrays are apart -/
def GI (c : CS) (D : List ab_E) (Q : Nat → Nat × (Nat → SY)) : Prop := (∀ l, l < 6 → cL c D l (Q l).1 (Q l).2) ∧ ∀ l, l < 6 → ∀ k, k < 6 → l ≠ k → ∀ a, c.2.2.2 l = .ref a → c.2.2.2 k ≠ .ref a
def upQ (Q : Nat → Nat × (Nat → SY)) (l n : Nat) (q : Nat → SY) : Nat → Nat × (Nat → SY) := fun k => if k = l then (n, q) else Q k
theorem setL_1 {c : CS} {l k : Nat} {m n : Int32} {v : Value} (hl : l < 6) (hk : k < 6) (h : k ≠ l) : (setL c l m n v).1 (30 + k) = c.1 (30 + k) := by
  show upd (upd c.1 (40 + l) m) (30 + l) n (30 + k) = _
  rw [pk_un (by omega), pk_un (by omega)]
theorem setL_2 {c : CS} {l : Nat} {m n : Int32} {v : Value} : (setL c l m n v).1 (30 + l) = n := pk_us
theorem setL_3 {c : CS} {l k : Nat} {m n : Int32} {v : Value} (h : k ≠ l) : (setL c l m n v).2.2.2 k = c.2.2.2 k := if_neg h
theorem setL_4 {c : CS} {l : Nat} {m n : Int32} {v : Value} : (setL c l m n v).2.2.2 l = v := if_pos rfl
/-- cells that stay -/
def kpD (D E : List ab_E) : Prop := ∀ (r : Nat) (fs : List Value), D[r]? = some (.inr (8, fs)) → E[r]? = some (.inr (8, fs))
theorem kp_app {D E : List ab_E} : kpD D (D ++ E) := fun r fs h => by
  rw [List.getElem?_append_left (List.getElem?_eq_some_iff.mp h).1]
  exact h
theorem kp_set {D : List ab_E} {e : Nat} {f : Nat → Option Nat} {x : ab_E} (hD : D[e]? = some (.inl (2, 10, .inr (.inr (.inr (.inr (f))))))) : kpD D (D.set e x) := fun r fs h => by
  rw [List.getElem?_set_ne]
  · exact h
  · intro q
    subst q
    rw [hD] at h
    cases h
theorem LI_kp {D E : List ab_E} {v : Value} {n : Nat} {q : Nat → SY} (h : LI D v n q) (hk : kpD D E) (ha : ∀ e f, v = .ref (43 + e) → D[e]? = some (.inl (2, 10, .inr (.inr (.inr (.inr (f)))))) → E[e]? = some (.inl (2, 10, .inr (.inr (.inr (.inr (f))))))) : LI E v n q := by
  rcases h with h | ⟨e, f, h1, h2, h3⟩
  · exact Or.inl h
  · refine Or.inr ⟨e, f, h1, ha e f h1 h2, fun i hi => ?_⟩
    obtain ⟨r, g1, g2⟩ := h3 i hi
    exact ⟨r, g1, hk _ _ g2⟩
theorem cL_q {c : CS} {D : List ab_E} {l n : Nat} {q q2 : Nat → SY} (h : cL c D l n q) (e : ∀ i, i < n → q2 i = q i) : cL c D l n q2 := by
  obtain ⟨h1, h2, h3, h4⟩ := h
  refine ⟨h1, h2, ?_, fun i hi => by rw [e i hi]; exact h4 i hi⟩
  rcases h3 with h | ⟨a, f, g1, g2, g3⟩
  · exact Or.inl h
  · exact Or.inr ⟨a, f, g1, g2, fun i hi => by rw [e i hi]; exact g3 i hi⟩
/-- one list's cell and array change: the others stand -/
theorem GI_step {c : CS} {D E : List ab_E} {Q : Nat → Nat × (Nat → SY)} {l n : Nat} {m k : Int32} {v : Value} {q : Nat → SY} (h : GI c D Q) (hl : l < 6) (hk : kpD D E) (hn : cL (setL c l m k v) E l n q)
    (ho : ∀ j, j < 6 → j ≠ l → ∀ e f, c.2.2.2 j = .ref (43 + e) → D[e]? = some (.inl (2, 10, .inr (.inr (.inr (.inr (f)))))) → E[e]? = some (.inl (2, 10, .inr (.inr (.inr (.inr (f))))))) (hv : ∀ j, j < 6 → j ≠ l → ∀ a, v = .ref a → c.2.2.2 j ≠ .ref a) : GI (setL c l m k v) E (upQ Q l n q) := by
  refine ⟨fun j hj => ?_, fun i hi j hj hij a ha => ?_⟩
  · by_cases e : j = l
    · subst e
      rw [upQ, if_pos rfl]
      exact hn
    · rw [upQ, if_neg e]
      obtain ⟨h1, h2, h3, h4⟩ := h.1 j hj
      exact ⟨(setL_1 hl hj e).trans h1, h2, by rw [setL_3 e]; exact LI_kp h3 hk (ho j hj e), h4⟩
  · by_cases e : i = l
    · subst e
      rw [setL_4] at ha
      rw [setL_3 (Ne.symm hij)]
      exact hv j hj (Ne.symm hij) a ha
    · rw [setL_3 e] at ha
      by_cases e2 : j = l
      · subst e2
        rw [setL_4]
        exact fun q => hv i hi e a q ha
      · rw [setL_3 e2]
        exact h.2 i hi j hj hij a ha
theorem GI_ad {c : CS} {D : List ab_E} {Q : Nat → Nat × (Nat → SY)} {l r : Nat} {y : SY} (h : GI c D Q) (hl : l < 6) (hn : (Q l).1 < 10) (hr : D[r]? = some (.inr (8, syF y))) (hy : VY y) : GI (adP l (43 + r) (c, D)).1 (adP l (43 + r) (c, D)).2 (upQ Q l ((Q l).1 + 1) (fun i => if i = (Q l).1 then y else (Q l).2 i)) := by
  obtain ⟨h1, h2, h3, h4⟩ := h.1 l hl
  have hV : ∀ i, i < (Q l).1 + 1 → VY (if i = (Q l).1 then y else (Q l).2 i) := fun i hi => by
    by_cases e : i = (Q l).1
    · rw [if_pos e]; exact hy
    · rw [if_neg e]; exact h4 i (by omega)
  rcases h3 with ⟨h0, hv⟩ | ⟨e, f, hv, hD, hf⟩
  · rw [adP_0 hv]
    refine GI_step h hl kp_app ⟨by rw [setL_2, h0]; rfl, by omega, ?_, hV⟩ (fun j hj hjl e f g1 g2 => ?_) (fun j hj hjl a ha g => ?_)
    · rw [setL_4]
      refine Or.inr ⟨D.length, _, rfl, ga_n, fun i hi => ?_⟩
      obtain rfl : i = 0 := by omega
      have e0 : (fun i => if i = (Q l).1 then y else (Q l).2 i) 0 = y := if_pos h0.symm
      exact ⟨r, rfl, by rw [e0]; exact kp_app _ _ hr⟩
    · rw [List.getElem?_append_left (List.getElem?_eq_some_iff.mp g2).1]
      exact g2
    · obtain ⟨b1, b2, b3, b4⟩ := h.1 j hj
      rw [← ha] at g
      rcases b3 with ⟨-, b3⟩ | ⟨e, f, b3, b5, -⟩
      · rw [b3] at g; cases g
      · rw [b3] at g
        have e1 : 43 + e = 43 + D.length := by injection g
        have e2 := (List.getElem?_eq_some_iff.mp b5).1
        omega
  · rw [adP_1 hv hD h1 h2]
    have hlt := (List.getElem?_eq_some_iff.mp hD).1
    refine GI_step h hl (kp_set hD) ⟨setL_2, by omega, ?_, hV⟩ (fun j hj hjl e2 f2 g1 g2 => ?_) (fun j hj hjl a ha => ?_)
    · rw [setL_4]
      refine Or.inr ⟨e, _, rfl, List.getElem?_set_self hlt, fun i hi => ?_⟩
      by_cases ei : i = (Q l).1
      · have e0 : (fun i => if i = (Q l).1 then y else (Q l).2 i) i = y := if_pos ei
        exact ⟨r, by rw [ei]; exact if_pos rfl, by rw [e0]; exact kp_set hD _ _ hr⟩
      · obtain ⟨r2, g1, g2⟩ := hf i (by omega)
        have e0 : (fun i => if i = (Q l).1 then y else (Q l).2 i) i = (Q l).2 i := if_neg ei
        exact ⟨r2, (if_neg ei).trans g1, by rw [e0]; exact kp_set hD _ _ g2⟩
    · rw [List.getElem?_set_ne]
      · exact g2
      · intro q
        subst q
        exact h.2 l hl j hj (Ne.symm hjl) _ hv g1
    · exact h.2 l hl j hj (Ne.symm hjl) a (hv.trans ha)
theorem clF_l {f : Nat → Option Nat} {n : Nat} : True := trivial
theorem GI_cl {c : CS} {D : List ab_E} {Q : Nat → Nat × (Nat → SY)} {l : Nat} (q : Nat → SY) (h : GI c D Q) (hl : l < 6) : GI (clP l (c, D)).1 (clP l (c, D)).2 (upQ Q l 0 q) := by
  obtain ⟨h1, h2, h3, h4⟩ := h.1 l hl
  rcases h3 with ⟨h0, hv⟩ | ⟨e, f, hv, hD, hf⟩
  · rw [clP_0 hv]
    refine GI_step h hl (fun _ _ z => z) ⟨setL_2, by omega, Or.inl ⟨rfl, setL_4⟩, fun i hi => absurd hi (Nat.not_lt_zero i)⟩ (fun j hj hjl e f g1 g2 => g2) (fun j hj hjl a ha g => by cases ha)
  · rw [clP_1 hv hD h1 h2]
    have hlt := (List.getElem?_eq_some_iff.mp hD).1
    refine GI_step h hl (kp_set hD) ⟨setL_2, by omega, ?_, fun i hi => absurd hi (Nat.not_lt_zero i)⟩ (fun j hj hjl e2 f2 g1 g2 => ?_) (fun j hj hjl a ha => ?_)
    · rw [setL_4]
      exact Or.inr ⟨e, _, rfl, List.getElem?_set_self hlt, fun i hi => absurd hi (Nat.not_lt_zero i)⟩
    · rw [List.getElem?_set_ne]
      · exact g2
      · intro q
        subst q
        exact h.2 l hl j hj (Ne.symm hjl) _ hv g1
    · exact h.2 l hl j hj (Ne.symm hjl) a (hv.trans ha)
theorem GI_rm {c : CS} {D : List ab_E} {Q : Nat → Nat × (Nat → SY)} {l n : Nat} (h : GI c D Q) (hl : l < 6) (hn : (Q l).1 = n + 1) : GI (rmP l (c, D)).1 (rmP l (c, D)).2 (upQ Q l n (Q l).2) := by
  obtain ⟨h1, h2, h3, h4⟩ := h.1 l hl
  rcases h3 with ⟨h0, hv⟩ | ⟨e, f, hv, hD, hf⟩
  · omega
  · rw [hn] at h1 h2 hf h4
    rw [rmP_1 hv hD h1 (by omega)]
    have hlt := (List.getElem?_eq_some_iff.mp hD).1
    refine GI_step h hl (kp_set hD) ⟨setL_2, by omega, ?_, fun i hi => h4 i (by omega)⟩ (fun j hj hjl e2 f2 g1 g2 => ?_) (fun j hj hjl a ha => ?_)
    · rw [setL_4]
      refine Or.inr ⟨e, _, rfl, List.getElem?_set_self hlt, fun i hi => ?_⟩
      obtain ⟨r2, g1, g2⟩ := hf i (by omega)
      exact ⟨r2, (if_neg (by omega)).trans g1, kp_set hD _ _ g2⟩
    · rw [List.getElem?_set_ne]
      · exact g2
      · intro q
        subst q
        exact h.2 l hl j hj (Ne.symm hjl) _ hv g1
    · exact h.2 l hl j hj (Ne.symm hjl) a (hv.trans ha)
theorem GI_app {c : CS} {D : List ab_E} {Q : Nat → Nat × (Nat → SY)} (x : ab_E) (h : GI c D Q) : GI c (D ++ [x]) Q := by
  refine ⟨fun j hj => ?_, h.2⟩
  obtain ⟨h1, h2, h3, h4⟩ := h.1 j hj
  refine ⟨h1, h2, LI_kp h3 kp_app (fun e f g1 g2 => ?_), h4⟩
  rw [List.getElem?_append_left (List.getElem?_eq_some_iff.mp g2).1]
  exact g2
theorem GI_c {c c2 : CS} {D : List ab_E} {Q : Nat → Nat × (Nat → SY)} (h : GI c D Q) (h1 : ∀ l, l < 6 → c2.1 (30 + l) = c.1 (30 + l)) (h2 : ∀ l, l < 6 → c2.2.2.2 l = c.2.2.2 l) : GI c2 D Q := by
  refine ⟨fun j hj => ?_, fun i hi j hj hij a ha => ?_⟩
  · obtain ⟨g1, g2, g3, g4⟩ := h.1 j hj
    exact ⟨(h1 j hj).trans g1, g2, by rw [h2 j hj]; exact g3, g4⟩
  · rw [h2 i hi] at ha
    rw [h2 j hj]
    exact h.2 i hi j hj hij a ha

