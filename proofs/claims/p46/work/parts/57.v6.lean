/-! the law, put together -/
theorem r_5 {G : ab_G} {nm : String} {X : ab_X} {L : Nat} {xs : Nat → Int32} (hS : ab_GS L xs G) (hX : ab_Good G (mLW nm) X) {pre : List ab_E} {c0 : CS} {D0 : List ab_E} {Q0 : QT} {nw T m : Nat} {f : Nat → Int32} (hP0 : PI c0 D0 Q0 nw) {c : CS} {D : List ab_E} {Q : QT} (hP : PI c D Q nw) (hb : LB c Q nw T f) (kk : ab_WA G (mLW nm) X 691 [(9, .int (bi (wb (lfT (Q (2 * 0)).2 (Q (2 * 0)).1 (Q (2 * 0 + 1)).2 (Q (2 * 0 + 1)).1) T))), (7, .long (lfT (Q (2 * 0)).2 (Q (2 * 0)).1 (Q (2 * 0 + 1)).2 (Q (2 * 0 + 1)).1)), (5, .long (mbT (Q (2 * 0)).2 (Q (2 * 0)).1)), (3, .long (toF c0 Q0 nw)), (2, .ref (pre.length + 42)), (1, .ref (pre.length + 0)), (0, .float 1)] [] (LH pre c f D)) : ab_WA G (mLW nm) X 467 [(9, .int (bi (wb (lfT (Q (2 * 0)).2 (Q (2 * 0)).1 (Q (2 * 0 + 1)).2 (Q (2 * 0 + 1)).1) T))), (7, .long (lfT (Q (2 * 0)).2 (Q (2 * 0)).1 (Q (2 * 0 + 1)).2 (Q (2 * 0 + 1)).1)), (5, .long (mbT (Q (2 * 0)).2 (Q (2 * 0)).1)), (3, .long (toF c0 Q0 nw)), (2, .ref (pre.length + 42)), (1, .ref (pre.length + 0)), (0, .float 1)] [] (LH pre c f D) := by
  have inner : ∀ w, w < nw → ab_WA G (mLW nm) X 600 [(10, .int (nI w)), (9, .int (bi (wb (lfT (Q (2 * 0)).2 (Q (2 * 0)).1 (Q (2 * 0 + 1)).2 (Q (2 * 0 + 1)).1) T))), (7, .long (lfT (Q (2 * 0)).2 (Q (2 * 0)).1 (Q (2 * 0 + 1)).2 (Q (2 * 0 + 1)).1)), (5, .long (mbT (Q (2 * 0)).2 (Q (2 * 0)).1)), (3, .long (toF c0 Q0 nw)), (2, .ref (pre.length + 42)), (1, .ref (pre.length + 0)), (0, .float 1)] [] (LH pre c f D) → ∀ n v, v + n = nw → ab_WA G (mLW nm) X 530 [(11, .int (nI v)), (10, .int (nI w)), (9, .int (bi (wb (lfT (Q (2 * 0)).2 (Q (2 * 0)).1 (Q (2 * 0 + 1)).2 (Q (2 * 0 + 1)).1) T))), (7, .long (lfT (Q (2 * 0)).2 (Q (2 * 0)).1 (Q (2 * 0 + 1)).2 (Q (2 * 0 + 1)).1)), (5, .long (mbT (Q (2 * 0)).2 (Q (2 * 0)).1)), (3, .long (toF c0 Q0 nw)), (2, .ref (pre.length + 42)), (1, .ref (pre.length + 0)), (0, .float 1)] [] (LH pre c f D) := fun w hw k2 n => by
    induction n with
    | zero => intro v hv; obtain rfl : v = nw := by omega
              exact v_5ie (m := m) hS hX hP0 hP hb k2
    | succ n ih => intro v hv; exact v_5i (m := m) hS hX hP0 hw (by omega) hP hb (ih (v + 1) (by omega))
  have outer : ∀ n w, w + n = nw → ab_WA G (mLW nm) X 470 [(10, .int (nI w)), (9, .int (bi (wb (lfT (Q (2 * 0)).2 (Q (2 * 0)).1 (Q (2 * 0 + 1)).2 (Q (2 * 0 + 1)).1) T))), (7, .long (lfT (Q (2 * 0)).2 (Q (2 * 0)).1 (Q (2 * 0 + 1)).2 (Q (2 * 0 + 1)).1)), (5, .long (mbT (Q (2 * 0)).2 (Q (2 * 0)).1)), (3, .long (toF c0 Q0 nw)), (2, .ref (pre.length + 42)), (1, .ref (pre.length + 0)), (0, .float 1)] [] (LH pre c f D) := fun n => by
    induction n with
    | zero => intro w hw; obtain rfl : w = nw := by omega
              exact v_5e (m := m) hS hX hP0 hP hb kk
    | succ n ih =>
      intro w hw
      exact v_5a (m := m) hS hX hP0 (by omega) hP hb (inner w (by omega) (v_5b (m := m) hS hX hP0 (by omega) hP hb (ih (w + 1) (by omega))) nw 0 (by omega))
  exact v_5z (m := m) hS hX hP0 (outer nw 0 (by omega))
theorem r_6 {G : ab_G} {nm : String} {X : ab_X} {L : Nat} {xs : Nat → Int32} (hS : ab_GS L xs G) (hX : ab_Good G (mLW nm) X) {pre : List ab_E} {c0 : CS} {D0 : List ab_E} {Q0 : QT} {nw T m : Nat} {f : Nat → Int32} (hP0 : PI c0 D0 Q0 nw) {c : CS} {D : List ab_E} {Q : QT} (hP : PI c D Q nw) (hb : LB c Q nw T f) (kk : ab_WA G (mLW nm) X 735 [(9, .int (bi (wb (lfT (Q (2 * 0)).2 (Q (2 * 0)).1 (Q (2 * 0 + 1)).2 (Q (2 * 0 + 1)).1) T))), (7, .long (lfT (Q (2 * 0)).2 (Q (2 * 0)).1 (Q (2 * 0 + 1)).2 (Q (2 * 0 + 1)).1)), (5, .long (mbT (Q (2 * 0)).2 (Q (2 * 0)).1)), (3, .long (toF c0 Q0 nw)), (2, .ref (pre.length + 42)), (1, .ref (pre.length + 0)), (0, .float 1)] [] (LH pre c f D)) : ab_WA G (mLW nm) X 691 [(9, .int (bi (wb (lfT (Q (2 * 0)).2 (Q (2 * 0)).1 (Q (2 * 0 + 1)).2 (Q (2 * 0 + 1)).1) T))), (7, .long (lfT (Q (2 * 0)).2 (Q (2 * 0)).1 (Q (2 * 0 + 1)).2 (Q (2 * 0 + 1)).1)), (5, .long (mbT (Q (2 * 0)).2 (Q (2 * 0)).1)), (3, .long (toF c0 Q0 nw)), (2, .ref (pre.length + 42)), (1, .ref (pre.length + 0)), (0, .float 1)] [] (LH pre c f D) := by
  refine v_6z (m := m) hS hX hP0 ?_
  rcases Nat.eq_zero_or_pos nw with h0 | h0
  · exact v_6w (m := m) hS hX hP0 h0 hP hb kk
  · have loop : ∀ j n, n + j = 5 → ab_WA G (mLW nm) X 694 [(10, .int (nI (n + 1))), (9, .int (bi (wb (lfT (Q (2 * 0)).2 (Q (2 * 0)).1 (Q (2 * 0 + 1)).2 (Q (2 * 0 + 1)).1) T))), (7, .long (lfT (Q (2 * 0)).2 (Q (2 * 0)).1 (Q (2 * 0 + 1)).2 (Q (2 * 0 + 1)).1)), (5, .long (mbT (Q (2 * 0)).2 (Q (2 * 0)).1)), (3, .long (toF c0 Q0 nw)), (2, .ref (pre.length + 42)), (1, .ref (pre.length + 0)), (0, .float 1)] [] (LH pre c f D) := fun j => by
      induction j with
      | zero => intro n hn; obtain rfl : n = 5 := by omega
                exact v_6e (m := m) hS hX hP0 kk
      | succ j ih => intro n hn; exact v_6s (m := m) hS hX hP0 (by omega) h0 hP hb (ih (n + 1) (by omega))
    exact loop 5 0 (by omega)
theorem r_7 {G : ab_G} {nm : String} {X : ab_X} {L : Nat} {xs : Nat → Int32} (hS : ab_GS L xs G) (hX : ab_Good G (mLW nm) X) {pre : List ab_E} {c0 : CS} {D0 : List ab_E} {Q0 : QT} {nw T m : Nat} {f : Nat → Int32} (hP0 : PI c0 D0 Q0 nw) {c : CS} {D : List ab_E} {Q : QT} (hP : PI c D Q nw) (hb : LB c Q nw T f) (kk : ab_WA G (mLW nm) X 782 [(9, .int (bi (wb (lfT (Q (2 * 0)).2 (Q (2 * 0)).1 (Q (2 * 0 + 1)).2 (Q (2 * 0 + 1)).1) T))), (7, .long (lfT (Q (2 * 0)).2 (Q (2 * 0)).1 (Q (2 * 0 + 1)).2 (Q (2 * 0 + 1)).1)), (5, .long (mbT (Q (2 * 0)).2 (Q (2 * 0)).1)), (3, .long (toF c0 Q0 nw)), (2, .ref (pre.length + 42)), (1, .ref (pre.length + 0)), (0, .float 1)] [] (LH pre c f D)) : ab_WA G (mLW nm) X 735 [(9, .int (bi (wb (lfT (Q (2 * 0)).2 (Q (2 * 0)).1 (Q (2 * 0 + 1)).2 (Q (2 * 0 + 1)).1) T))), (7, .long (lfT (Q (2 * 0)).2 (Q (2 * 0)).1 (Q (2 * 0 + 1)).2 (Q (2 * 0 + 1)).1)), (5, .long (mbT (Q (2 * 0)).2 (Q (2 * 0)).1)), (3, .long (toF c0 Q0 nw)), (2, .ref (pre.length + 42)), (1, .ref (pre.length + 0)), (0, .float 1)] [] (LH pre c f D) := by
  refine v_7z (m := m) hS hX hP0 ?_
  have loop : ∀ n k, k + n = (Q (2 * 0 + 1)).1 → ab_WA G (mLW nm) X 738 [(10, .int (nI k)), (9, .int (bi (wb (lfT (Q (2 * 0)).2 (Q (2 * 0)).1 (Q (2 * 0 + 1)).2 (Q (2 * 0 + 1)).1) T))), (7, .long (lfT (Q (2 * 0)).2 (Q (2 * 0)).1 (Q (2 * 0 + 1)).2 (Q (2 * 0 + 1)).1)), (5, .long (mbT (Q (2 * 0)).2 (Q (2 * 0)).1)), (3, .long (toF c0 Q0 nw)), (2, .ref (pre.length + 42)), (1, .ref (pre.length + 0)), (0, .float 1)] [] (LH pre c f D) := fun n => by
    induction n with
    | zero => intro k hk; obtain rfl : k = (Q (2 * 0 + 1)).1 := by omega
              exact v_7e (m := m) hS hX hP0 hP hb kk
    | succ n ih => intro k hk; exact v_7s (m := m) hS hX hP0 (by omega) hP hb (ih (k + 1) (by omega))
  exact loop (Q (2 * 0 + 1)).1 0 (by omega)
theorem r_10 {G : ab_G} {nm : String} {X : ab_X} {L : Nat} {xs : Nat → Int32} (hS : ab_GS L xs G) (hX : ab_Good G (mLW nm) X) {pre : List ab_E} {c0 : CS} {D0 : List ab_E} {Q0 : QT} {nw T m : Nat} {f : Nat → Int32} (hP0 : PI c0 D0 Q0 nw) {c : CS} {D : List ab_E} {Q : QT} (hL : L ≤ 260) (hb0 : LB c0 Q0 nw T f) (hK : LK c0 Q0 nw T m 0 c D Q) (kk : ∀ (k : Nat) (c : CS) (D : List ab_E) (Q : QT), k ≤ 10 → LK c0 Q0 nw T m k c D Q → (nw = 0 ∨ (Q (2 * 0 + 1)).1 = 10) → ab_WA G (mLW nm) X 1172 [(3, .long (toF c0 Q0 nw)), (2, .ref (pre.length + 42)), (1, .ref (pre.length + 0)), (0, .float 1)] [] (LH pre c f D)) : ab_WA G (mLW nm) X 1014 [(3, .long (toF c0 Q0 nw)), (2, .ref (pre.length + 42)), (1, .ref (pre.length + 0)), (0, .float 1)] [] (LH pre c f D) := by
  have hn0 := (hP0.1.1 (2 * 0 + 1) (by decide)).2.1
  refine v_10a (m := m) hS hX hP0 hb0 hK.1 ?_
  rcases Nat.eq_zero_or_pos nw with h0 | h0
  · exact v_10w (m := m) hS hX hP0 h0 hb0 (kk 0 c D Q (by decide) hK (Or.inl h0))
  · have loop : ∀ n k (c : CS) (D : List ab_E) (Q : QT), k + n = 10 - (Q0 (2 * 0 + 1)).1 → LK c0 Q0 nw T m k c D Q → ab_WA G (mLW nm) X 1029 [(13, .int (nI k)), (12, .int (nI ((Q0 (2 * 0 + 1)).1 + k))), (11, .int (lbc (lfT (Q (2 * 0)).2 (Q (2 * 0)).1 (Q (2 * 0 + 1)).2 (Q (2 * 0 + 1)).1))), (3, .long (toF c0 Q0 nw)), (2, .ref (pre.length + 42)), (1, .ref (pre.length + 0)), (0, .float 1)] [] (LH pre c f D) := fun n => by
      induction n with
      | zero =>
        intro k c D Q hk hK
        obtain rfl : k = 10 - (Q0 (2 * 0 + 1)).1 := by omega
        exact v_10e (m := m) hS hX hP0 hb0 (kk _ c D Q (by omega) hK (Or.inr (by rw [hK.2.2.2.1]; omega)))
      | succ n ih =>
        intro k c D Q hk hK
        exact v_10s hS hX hP0 hL hb0 hK (by omega) h0 (fun c D Q hK => ih (k + 1) c D Q (by omega) hK)
    exact loop (10 - (Q0 (2 * 0 + 1)).1) 0 c D Q (by omega) hK
section
variable {G : ab_G} {nm : String} {X : ab_X} {L : Nat} {xs : Nat → Int32}
theorem r_law {pre : List ab_E} (hS : ab_GS L xs G) (hX : ab_Good G (mLW nm) X) (hL : L ≤ 260) (hp1 : pre.length ≤ 500) (hp2 : ab_sz pre ≤ 50000) (fin : ∀ (l : List (Nat × Value)) (h : List ab_E), h.length ≤ 10000 → ab_sz h ≤ 200000 → ab_WA G (mLW nm) X 1301 l [] h) : ab_WA G (mLW nm) X 73 [(0, .float 1)] [] pre := by
  refine tz_world hS hX hL ?_
  obtain ⟨Q0, T, hP0, hb0, hz⟩ := w_LB (L := L) (xs := xs) c_PI rfl rfl
  generalize (w3S L xs cz []).1 = c0 at hP0 hb0 hz ⊢
  generalize (w3S L xs cz []).2.1 = D0 at hP0 hb0 hz ⊢
  generalize (w3S L xs cz []).2.2 = f at hP0 hb0 hz ⊢
  generalize wnN L xs = nw at hP0 hb0
  refine v_1 hS hX hP0 hb0 hz (fun c D Q hV => ?_)
  refine v_2 hS hX hP0 hb0 hV (fun c hV hs => ?_)
  refine v_3 hS hX hP0 hV hs (fun c hV hs hx => ?_)
  have hb := LB_s hb0 hV.2.1 hV.1.2.2.1
  refine v_4 (m := 0) hS hX hP0 hV.1 hb (r_5 (m := 0) hS hX hP0 hV.1 hb (r_6 (m := 0) hS hX hP0 hV.1 hb (r_7 (m := 0) hS hX hP0 hV.1 hb (v_8 (m := 0) hS hX hP0 hV.1 hb ?_))))
  refine v_9 hS hX hP0 hL hb0 hV ⟨3, by decide, hs⟩ hx (fun c D hV hs hx => ?_)
  refine r_10 hS hX hP0 hL hb0 (lk_0 hb0 hV hs hx) (fun k c D Q hk hK hn => ?_)
  obtain ⟨q1, q2, q3, q4, q5, q6, q7, q8⟩ := hK
  refine v_11 hS hX hP0 hb0 ⟨q1, q3, q5, q6, q8⟩ hn (fun D hX1 => ?_)
  refine v_12 hS hX hP0 hb0 hX1 q7 (fun c D Q hX2 => ?_)
  obtain ⟨y1, y2, y3, y4, y5⟩ := hX2
  refine v_13 (m := 0) hS hX hP0 hb0 y1 y2 y3 (fun c nv z1 z2 z3 => ?_)
  exact v_14 hS hX hP0 hb0 z1 z2 z3 y5 (by omega) hp1 hp2 fin
theorem e_law (hS : ab_GS L xs G) (hX : ab_Good G (mLW nm) X) (hL : L ≤ 260) (fin : ∀ (l : List (Nat × Value)) (h : List ab_E), h.length ≤ 10000 → ab_sz h ≤ 200000 → ab_WA G (mLW nm) X 1301 l [] h) : ab_WA G (mLW nm) X 0 [(0, .float 1)] [] [] := by
  refine tz_restore hS hX (fun h1 l1 z1 => ?_)
  refine tz_image hS hX (fun h2 l2 z2 => ?_)
  refine tz_plain hS hX (fun h3 l3 z3 => ?_)
  refine tz_ask hS hX (fun h4 l4 z4 => ?_)
  refine tz_clash hS hX (fun h5 l5 z5 => ?_)
  have q := szC2
  refine r_law hS hX hL ?_ ?_ fin
  · rw [l5, l4, l3, l2, l1]; decide
  · rw [z5, z4, z3, z2, z1]
    show 0 + ab_sz (cC cz) + ab_sz (cC cz) + ab_sz (cC cz) + ab_sz (cC cz) + ab_sz (cC cz) ≤ 50000
    omega
end
