/-! copies, witnesses, sayings, images -/
theorem lg_gt {x y : Int64} : 0 < lg_cmp x y ↔ y < x := by
  unfold lg_cmp
  by_cases h : x > y
  · rw [if_pos h]; exact ⟨fun _ => h, fun _ => by decide⟩
  · rw [if_neg h]
    constructor
    · intro z
      exfalso
      revert z
      split
      · decide
      · decide
    · intro z; exact absurd z h
theorem lg_ng {x y : Int64} : lg_cmp x y ≤ 0 ↔ ¬ y < x := by
  rw [← lg_gt, fa_le, fa_lt]; omega
theorem add_64 (i n : Int32) : (i.toInt64 + n.toInt64).toInt = i.toInt + n.toInt := by
  have a := fb_rng i
  have b := fb_rng n
  rw [fb_addL, Int32.toInt_toInt64, Int32.toInt_toInt64]
  · rw [Int32.toInt_toInt64, Int32.toInt_toInt64]; omega
  · rw [Int32.toInt_toInt64, Int32.toInt_toInt64]; omega
theorem hp_n {c : CS} {d m : Nat} (e : c.1 (80 + d) = nI m) (hm : m ≤ 100) (i n : Int32) : hpB c d i n = true ↔ ¬ i < 0 ∧ ¬ n < 0 ∧ ¬ (nI m).toInt64 < i.toInt64 + n.toInt64 := by
  have h0 : (0 : Int32).toInt = 0 := by decide
  unfold hpB
  rw [e, decide_eq_false (show ¬ (100 : Int32) < nI m from nI_nlt (a := 100) (b := m) hm (by omega))]
  simp only [Bool.and_eq_true, Bool.not_eq_true', decide_eq_false_iff_not, Bool.not_false, and_true]
  rw [fa_lt64, add_64, Int32.toInt_toInt64]
  have hT := nT (n := m) (by omega)
  by_cases hn : n < 0
  · exact ⟨fun z => absurd hn z.2.1, fun z => absurd hn z.2.1⟩
  by_cases hm2 : nI m < n
  · refine ⟨fun z => absurd hm2 z.2.2.1, fun z => ?_⟩
    exfalso
    rw [fa_lt, h0] at z
    rw [fa_lt, hT] at hm2
    omega
  · have hs : (nI m - n).toInt = (m : Int) - n.toInt := by
      have := fb_rng n
      rw [fa_lt, h0] at hn
      rw [fa_lt, hT] at hm2
      rw [fb_subI (by rw [hT]; omega) (by rw [hT]; omega), hT]
    rw [fa_lt, fa_lt, fa_lt, fa_lt, hs, h0, hT]
    rw [fa_lt, h0] at hn
    rw [fa_lt, hT] at hm2
    omega
theorem cpU_v (a b : Nat) (s : MS) : ∀ n, (∀ m, m < n → ¬ (a ≤ b + m ∧ b + m < a + m)) → (acc (cpU a b) s n).1 = s.1 ∧ (∀ k, k ≠ 11 → (acc (cpU a b) s n).2.1 k = s.2.1 k) ∧ ∀ x, (acc (cpU a b) s n).2.1 11 x = if a ≤ x ∧ x < a + n then s.2.1 11 (b + (x - a)) else s.2.1 11 x
  | 0, _ => ⟨rfl, fun _ _ => rfl, fun x => (if_neg (by omega)).symm⟩
  | n + 1, h => by
    obtain ⟨e1, e2, e3⟩ := cpU_v a b s n fun m hm => h m (by omega)
    rw [acc_s]
    refine ⟨e1, fun k hk => (mu2_n hk).trans (e2 k hk), fun x => ?_⟩
    show (mu2 (acc (cpU a b) s n) 11 (a + n) ((acc (cpU a b) s n).2.1 11 (b + n))).2.1 11 x = _
    rw [mu2_v, e3 (b + n), if_neg (h n (by omega)), e3 x]
    by_cases z : x = a + n
    · subst z
      rw [if_pos rfl, if_pos (by omega), show a + n - a = n from by omega]
    · rw [if_neg z]
      by_cases z2 : a ≤ x ∧ x < a + n
      · rw [if_pos z2, if_pos (by omega)]
      · rw [if_neg z2, if_neg (by omega)]
theorem cpD_v (a b : Nat) (hab : b ≤ a) : ∀ n s, (cpD a b n s).1 = s.1 ∧ (∀ k, k ≠ 11 → (cpD a b n s).2.1 k = s.2.1 k) ∧ ∀ x, (cpD a b n s).2.1 11 x = if a ≤ x ∧ x < a + n then s.2.1 11 (b + (x - a)) else s.2.1 11 x
  | 0, s => ⟨rfl, fun _ _ => rfl, fun x => (if_neg (by omega)).symm⟩
  | n + 1, s => by
    obtain ⟨e1, e2, e3⟩ := cpD_v a b hab n (mu2 s 11 (a + n) (s.2.1 11 (b + n)))
    refine ⟨e1, fun k hk => (e2 k hk).trans (mu2_n hk), fun x => ?_⟩
    show (cpD a b n (mu2 s 11 (a + n) (s.2.1 11 (b + n)))).2.1 11 x = _
    rw [e3, mu2_v, mu2_v]
    by_cases z : x = a + n
    · subst z
      rw [if_neg (by omega), if_pos rfl, if_pos (by omega), show a + n - a = n from by omega]
    · by_cases z2 : a ≤ x ∧ x < a + n
      · rw [if_pos z2, if_neg (by omega), if_pos (by omega)]
      · rw [if_neg z2, if_neg z, if_neg (by omega)]
/-- what a copy asks for, at both -/
theorem cp_ask {c : CS} {d e m1 m2 : Nat} (h1 : c.1 (80 + d) = nI m1) (h2 : c.1 (80 + e) = nI m2) (k1 : m1 ≤ 100) (k2 : m2 ≤ 100) {α : Type} (i j n : Int32) (X Y : α) :
    (if n < 0 then Y else if i < 0 then Y else if j < 0 then Y else if 0 < lg_cmp (i.toInt64 + n.toInt64) (nI m1).toInt64 then Y else if lg_cmp (j.toInt64 + n.toInt64) (nI m2).toInt64 ≤ 0 then X else Y) = if hpB c d i n = true then (if hpB c e j n = true then X else Y) else Y := by
  by_cases q : hpB c d i n = true
  · rw [if_pos q]
    obtain ⟨a1, a2, a3⟩ := (hp_n h1 k1 i n).mp q
    rw [if_neg a2, if_neg a1, if_neg (fun z => a3 (lg_gt.mp z))]
    by_cases q2 : hpB c e j n = true
    · obtain ⟨b1, b2, b3⟩ := (hp_n h2 k2 j n).mp q2
      rw [if_pos q2, if_neg b1, if_pos (lg_ng.mpr b3)]
    · rw [if_neg q2]
      by_cases q3 : j < 0
      · rw [if_pos q3]
      · rw [if_neg q3, if_neg (fun z => q2 ((hp_n h2 k2 j n).mpr ⟨q3, a2, lg_ng.mp z⟩))]
  · rw [if_neg q]
    by_cases a1 : n < 0
    · rw [if_pos a1]
    · by_cases a2 : i < 0
      · rw [if_neg a1, if_pos a2]
      · have : 0 < lg_cmp (i.toInt64 + n.toInt64) (nI m1).toInt64 := by
          rw [lg_gt]
          apply Classical.byContradiction
          intro z
          exact q ((hp_n h1 k1 i n).mpr ⟨a2, a1, z⟩)
        rw [if_neg a1, if_neg a2, if_pos this]
        split <;> rfl
section
variable {c : CS} {D : List ab_E} {Q : QT} {nw : Nat} {s : MS}
theorem em_0 (h : RS c D Q nw s) {d : Nat} (hd : d < 8) : emB c d = true ↔ s.2.1 8 d = 0 := by
  unfold emB
  rw [decide_eq_true_eq]
  rcases rs_sr h hd with ⟨a, b⟩ | ⟨a, b, -⟩ | ⟨a, b, -⟩ <;> rw [a, b]
theorem rf_2 (h : RS c D Q nw s) {d : Nat} (hd : d < 8) : rfU c d 2 = 0 ↔ s.2.1 8 d = 2 := by
  unfold rfU
  rcases rs_sr h hd with ⟨a, b⟩ | ⟨a, b, -⟩ | ⟨a, b, -⟩ <;> rw [a, b] <;> decide
theorem rf_5 (h : RS c D Q nw s) {d : Nat} (hd : d < 8) (e : s.2.1 8 d = 2) : c.1 (50 + d) = 2 := by
  rcases rs_sr h hd with ⟨a, b⟩ | ⟨a, b, -⟩ | ⟨a, b, -⟩
  · rw [b] at e; exact absurd e (by decide)
  · rw [b] at e; exact absurd e (by decide)
  · exact a
theorem ite_x {α : Type} {P R : Prop} [Decidable P] [Decidable R] (h : P ↔ R) {x y x2 y2 : α} (hx : R → x = x2) (hy : ¬ R → y = y2) : (if P then x else y) = if R then x2 else y2 := by
  by_cases q : R
  · rw [if_pos (h.mpr q), if_pos q, hx q]
  · rw [if_neg (fun z => q (h.mp z)), if_neg q, hy q]
theorem eq_copy (h : RS c D Q nw s) {a b d e g : Int32} : cpR c a b d e g = coM s a b d e g := by
  unfold cpR coM
  refine if_cg fun q1 => if_cg fun q2 => ?_
  obtain ⟨j, hj, rfl⟩ := iw8 q1
  obtain ⟨k, hk, rfl⟩ := iw8 q2
  rw [tn_nI (by omega), tn_nI (by omega)]
  refine ite_x (em_0 h hj) (fun _ => rfl) fun _ => ite_x (em_0 h hk) (fun _ => rfl) fun _ => ite_x (rf_2 h hj) (fun z1 => ite_x (rf_2 h hk) (fun z2 => ?_) fun _ => rfl) fun _ => rfl
  obtain ⟨m8, o, n, ho, hn, e7, m9, e8, m10, f⟩ := sr_2 (rs_sr h hj) (rf_5 h hj z1)
  obtain ⟨m8', o', n', ho', hn', e7', m9', e8', m10', f'⟩ := sr_2 (rs_sr h hk) (rf_5 h hk z2)
  rw [e7, e7', m9, m9']
  refine ite_x Iff.rfl (fun _ => ?_) fun _ => rfl
  rw [m10, m10', cp_ask e8 e8' hn hn']
theorem rs_copy (h : RS c D Q nw s) {a b d e g : Int32} : ∃ Q2 nw2, RS (cpP c a b d e g) D Q2 nw2 (coS s a b d e g) := by
  refine ⟨Q, nw, ?_⟩
  unfold cpP coS
  by_cases q1 : iw a 0 7 = true
  · rw [if_pos q1, if_pos q1]
    by_cases q2 : iw d 0 7 = true
    · rw [if_pos q2, if_pos q2]
      obtain ⟨j, hj, rfl⟩ := iw8 q1
      obtain ⟨k, hk, rfl⟩ := iw8 q2
      rw [tn_nI (by omega), tn_nI (by omega)]
      by_cases y1 : s.2.1 8 j = 0
      · rw [if_pos ((em_0 h hj).mpr y1), if_pos y1]; exact h
      rw [if_neg (fun z => y1 ((em_0 h hj).mp z)), if_neg y1]
      by_cases y2 : s.2.1 8 k = 0
      · rw [if_pos ((em_0 h hk).mpr y2), if_pos y2]; exact h
      rw [if_neg (fun z => y2 ((em_0 h hk).mp z)), if_neg y2]
      by_cases z1 : s.2.1 8 j = 2
      · rw [if_pos ((rf_2 h hj).mpr z1), if_pos z1]
        by_cases z2 : s.2.1 8 k = 2
        · rw [if_pos ((rf_2 h hk).mpr z2), if_pos z2]
          obtain ⟨m8, o, n, ho, hn, e7, m9, e8, m10, f⟩ := sr_2 (rs_sr h hj) (rf_5 h hj z1)
          obtain ⟨m8', o', n', ho', hn', e7', m9', e8', m10', f'⟩ := sr_2 (rs_sr h hk) (rf_5 h hk z2)
          by_cases y3 : s.2.1 9 j = s.2.1 9 k
          · rw [if_pos (show c.1 (70 + j) = c.1 (70 + k) by rw [e7, e7', ← m9, ← m9']; exact y3), if_pos y3, m10, m10', cp_ask e8 e8' hn hn']
            by_cases w1 : hpB c j b g = true
            · rw [if_pos w1, if_pos w1]
              by_cases w2 : hpB c k e g = true
              · rw [if_pos w2, if_pos w2]
                obtain ⟨a1, a2, a3⟩ := (hp_n e8 hn b g).mp w1
                obtain ⟨b1, b2, b3⟩ := (hp_n e8' hn' e g).mp w2
                obtain ⟨bn, hb, rfl⟩ := nI_of a1
                obtain ⟨en, he, rfl⟩ := nI_of b1
                obtain ⟨gn, hg, rfl⟩ := nI_of a2
                rw [fa_lt64, add_64, Int32.toInt_toInt64, nT (by omega), nT (by omega), nT (by omega)] at a3 b3
                rw [tn_nI (by omega), tn_nI (by omega), tn_nI (by omega)]
                have key : ∃ t : MS, (if nI j = nI k then (if nI en ≤ nI bn then acc (cpU (100 * k + en) (100 * j + bn)) s gn else cpD (100 * k + en) (100 * j + bn) gn s) else acc (cpU (100 * k + en) (100 * j + bn)) s gn) = t ∧ t.1 = s.1 ∧ (∀ k, k ≠ 11 → t.2.1 k = s.2.1 k) ∧ ∀ x, t.2.1 11 x = if 100 * k + en ≤ x ∧ x < 100 * k + en + gn then s.2.1 11 (100 * j + bn + (x - (100 * k + en))) else s.2.1 11 x := by
                  by_cases w3 : nI j = nI k
                  · have hjk := (nI_eq (by omega) (by omega)).mp w3
                    rw [if_pos w3]
                    by_cases w4 : nI en ≤ nI bn
                    · rw [if_pos w4]
                      have := (nI_leI (by omega) (by omega)).mp w4
                      exact ⟨_, rfl, cpU_v _ _ s gn fun m hm => by omega⟩
                    · rw [if_neg w4]
                      have : ¬ en ≤ bn := fun z => w4 (nI_le z (by omega))
                      exact ⟨_, rfl, cpD_v _ _ (by omega) gn s⟩
                  · rw [if_neg w3]
                    have hjk : j ≠ k := fun z => w3 (by rw [z])
                    exact ⟨_, rfl, cpU_v _ _ s gn fun m hm => by omega⟩
                obtain ⟨t, et, t1, t2, t11⟩ := key
                rw [et]
                have v2 : ∀ x, x ≠ 10 + k → (cf2 c (10 + k) (va_cpy (c.2.1 (10 + j)) (c.2.1 (10 + k)) bn en gn)).2.1 x = c.2.1 x := fun x hx => if_neg hx
                refine RS_sh h k (fun k hk => rfl) (fun x hx => v2 x (by omega)) (fun k hk => rfl) t1 (fun k h8 h9 h10 h11 => t2 k h11) (fun x hx hxk => ?_) ?_ h.2.2.2.2
                · refine SR_o (rs_sr h hx) rfl rfl rfl rfl (v2 _ (by omega)) rfl ?_ ?_ ?_ (fun l hl => ?_)
                  · rw [t2 8 (by decide)]
                  · rw [t2 9 (by decide)]
                  · rw [t2 10 (by decide)]
                  · rw [t11, if_neg (by omega)]
                · refine Or.inr (Or.inr ⟨rf_5 h hk z2, ?_, o', n', ho', hn', e7', ?_, e8', ?_, fun l hl => ?_⟩)
                  · rw [t2 8 (by decide)]; exact z2
                  · rw [t2 9 (by decide)]; exact m9'
                  · rw [t2 10 (by decide)]; exact m10'
                  · rw [t11]
                    show (if 10 + k = 10 + k then va_cpy (c.2.1 (10 + j)) (c.2.1 (10 + k)) bn en gn else _) l = _
                    rw [if_pos rfl]
                    by_cases w : en ≤ l ∧ l < en + gn
                    · rw [pk_cpy_in w.1 w.2, if_pos (by omega), f (bn + (l - en)) (by omega), show 100 * j + bn + (100 * k + l - (100 * k + en)) = 100 * j + (bn + (l - en)) from by omega]
                    · rw [pk_cpy_out (by omega), if_neg (by omega)]
                      exact f' l hl
              · rw [if_neg w2, if_neg w2]; exact h
            · rw [if_neg w1, if_neg w1]; exact h
          · rw [if_neg (show ¬ c.1 (70 + j) = c.1 (70 + k) from fun z => y3 (by rw [m9, m9', ← e7, ← e7']; exact z)), if_neg y3]; exact h
        · rw [if_neg (fun z => z2 ((rf_2 h hk).mp z)), if_neg z2]; exact h
      · rw [if_neg (fun z => z1 ((rf_2 h hj).mp z)), if_neg z1]; exact h
    · rw [if_neg q2, if_neg q2]; exact h
  · rw [if_neg q1, if_neg q1]; exact h
theorem rs_truth (h : RS c D Q nw s) {a : Int32} : ∃ Q2 nw2, RS (trtP c a) D Q2 nw2 (truS s a) := by
  refine ⟨Q, nw, ?_⟩
  unfold trtP truS
  rw [inB64]
  by_cases q : iw a 0 63 = true
  · rw [if_pos q, if_pos q]
    obtain ⟨t, ht, rfl⟩ := iw_ex (n := 64) (by decide) (by decide) q
    have v1 : ∀ k, k ≠ 20 + 0 → (cu1 c (20 + 0) (nI t)).1 k = c.1 k := fun k hk => pk_un hk
    have u1 : ∀ k, k ≠ 0 → (mu1 s 0 (nI t)).1 k = s.1 k := fun k hk => pk_un hk
    obtain ⟨e1, e2, e3, e4, e5, e6, e7, e8, e9, e10, e11, e12⟩ := h.2.1
    refine ⟨GI_c h.1 (fun l hl => v1 _ (by omega)) (fun l hl => rfl), ⟨e1, e2, e3, ?_, ?_, ?_, ?_, rfl, ⟨t, ht, rfl⟩, e10, e11, e12⟩, ?_, fun d hd => ?_, h.2.2.2.2⟩
    · rw [u1 1 (by decide)]; exact e4
    · rw [u1 5 (by decide)]; exact e5
    · rw [u1 3 (by decide)]; exact e6
    · rw [v1 (10 + 0) (by decide)]; exact e7
    · have := IR_q (t := mu1 s 0 (nI t)) rfl rfl (u1 15 (by decide)) rfl h.2.2.1
      unfold IR TR1 at this ⊢
      rw [v1 0 (by decide), v1 (10 + 1) (by decide), v1 (20 + 1) (by decide)]
      exact this
    · exact SR_o (rs_sr h hd) (v1 _ (by omega)) (v1 _ (by omega)) (v1 _ (by omega)) (v1 _ (by omega)) rfl rfl rfl rfl rfl (fun _ _ => rfl)
  · rw [if_neg q, if_neg q]; exact h
theorem rs_witness (h : RS c D Q nw s) {a : Int32} : ∃ Q2 nw2, RS (wtnP c a) D Q2 nw2 (witS s nw a) := by
  have h5 := rs_w5 h
  unfold wtnP witS
  rw [show afB a = iw a 0 63 from rfl]
  by_cases q : iw a 0 63 = true
  · rw [if_pos q, if_pos q]
    unfold awP awB
    rw [show afB a = iw a 0 63 from rfl, q, rs_w h, rs_m3 h]
    by_cases q5 : nI nw = 5
    · rw [decide_eq_true q5, if_pos q5]
      exact ⟨Q, nw, h⟩
    · rw [decide_eq_false q5, if_neg q5, tn_nI (by omega), if_pos (show (true && !false) = true from rfl), nI_1]
      have hlt : nw < 5 := by
        apply Nat.lt_of_not_le
        intro z
        exact q5 (by rw [show nw = 5 from by omega]; rfl)
      refine ⟨Q, nw + 1, ?_⟩
      obtain ⟨t, ht, rfl⟩ := iw_ex (n := 64) (by decide) (by decide) q
      have v1 : ∀ k, (cu1 (cu2 c 0 nw (nI t)) (10 + 0) (nI (nw + 1))).1 k = if k = 10 + 0 then nI (nw + 1) else c.1 k := fun k => rfl
      have u1 : ∀ k, (mu1 (mu2 s 4 nw (nI t)) 3 (nI (nw + 1))).1 k = if k = 3 then nI (nw + 1) else s.1 k := fun k => rfl
      have v2 : ∀ k, k ≠ 0 → (cu1 (cu2 c 0 nw (nI t)) (10 + 0) (nI (nw + 1))).2.1 k = c.2.1 k := fun k hk => if_neg hk
      have v20 : ∀ i, (cu1 (cu2 c 0 nw (nI t)) (10 + 0) (nI (nw + 1))).2.1 0 i = if i = nw then nI t else c.2.1 0 i := fun i => rfl
      have u2 : ∀ k, k ≠ 4 → (mu1 (mu2 s 4 nw (nI t)) 3 (nI (nw + 1))).2.1 k = s.2.1 k := fun k hk => if_neg hk
      have u24 : ∀ i, (mu1 (mu2 s 4 nw (nI t)) 3 (nI (nw + 1))).2.1 4 i = if i = nw then nI t else s.2.1 4 i := fun i => mu2_v i
      obtain ⟨e1, e2, e3, e4, e5, e6, e7, e8, e9, e10, e11, e12⟩ := h.2.1
      refine ⟨GI_c h.1 (fun l hl => by rw [v1, if_neg (by omega)]) (fun l hl => rfl), ⟨e1, e2, by omega, ?_, ?_, ?_, ?_, ?_, ?_, fun i hi => ?_, fun i hi => ?_, fun k hk => ?_⟩, ?_, fun d hd => ?_, h.2.2.2.2⟩
      · rw [u1, if_neg (by decide)]; exact e4
      · rw [u1, if_neg (by decide)]; exact e5
      · rw [u1, if_pos rfl]
      · rw [v1, if_pos rfl]
      · rw [v1, if_neg (by decide), u1, if_neg (by decide)]; exact e8
      · rw [u1, if_neg (by decide)]; exact e9
      · rw [u2 2 (by decide)]; exact e10 i hi
      · rw [u2 6 (by decide), u2 7 (by decide)]
        obtain ⟨x1, x2, x3, w, hw, x4⟩ := e11 i hi
        exact ⟨x1, x2, x3, w, by omega, x4⟩
      · rw [u24, v20]
        by_cases z : k = nw
        · rw [if_pos z, if_pos z]; exact ⟨rfl, t, ht, rfl⟩
        · rw [if_neg z, if_neg z]; exact e12 k (by omega)
      · have := IR_q (t := mu1 (mu2 s 4 nw (nI t)) 3 (nI (nw + 1))) rfl rfl (by rw [u1, if_neg (by decide)]) (u2 16 (by decide)) h.2.2.1
        unfold IR TR1 at this ⊢
        rw [v1, v1, v1, if_neg (by decide), if_neg (by decide), if_neg (by decide), v2 1 (by decide)]
        exact this
      · exact SR_o (rs_sr h hd) (by rw [v1, if_neg (by omega)]) (by rw [v1, if_neg (by omega)]) (by rw [v1, if_neg (by omega)]) (by rw [v1, if_neg (by omega)]) (v2 _ (by omega)) rfl (by rw [u2 8 (by decide)]) (by rw [u2 9 (by decide)]) (by rw [u2 10 (by decide)]) (fun i hi => by rw [u2 11 (by decide)])
  · rw [if_neg q, if_neg q]; exact ⟨Q, nw, h⟩
end
