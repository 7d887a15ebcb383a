/-! the best of sets -/
theorem ibc10 : ∀ i, i < 1024 → ¬ (11 : Int32) ≤ ibc (nI i) := by decide +kernel
theorem ibc5 : ∀ i, i < 32 → ¬ (6 : Int32) ≤ ibc (nI i) := by decide +kernel
theorem nIne4 {i : Nat} (h : i < 2147483648) : ¬ nI i = -4 := fun e => nI_pos h (by rw [e]; decide)
theorem best_eq {P : Nat → Bool} {N0 : Int32} {n : Nat} (hn : n ≤ 1024) (h0 : ∀ i, i < n → ¬ N0 ≤ ibc (nI i)) :
    (acc (fun i (p : Int32 × Int32) => if p.2 ≤ ibc (nI i) then p else if P i = true then (nI i, ibc (nI i)) else p) (-4, N0) n).1 = acc (fun i (f : Int32) => if btB (nI i) f = true then (if P i = true then nI i else f) else f) (-4) n := by
  refine (accR (P := fun (i : Nat) (p : Int32 × Int32) (f : Int32) => p.1 = f ∧ ((f = -4 ∧ p.2 = N0) ∨ (¬ f = -4 ∧ p.2 = ibc f))) ⟨rfl, Or.inl ⟨rfl, rfl⟩⟩ ?_).1
  rintro i hi ⟨p1, p2⟩ f ⟨e1, e2⟩
  dsimp only at e1 e2 ⊢
  subst e1
  rcases e2 with ⟨a, b⟩ | ⟨a, b⟩
  · subst a b
    rw [if_neg (h0 i hi), show btB (nI i) (-4) = true from if_pos rfl, if_pos rfl]
    split
    · exact ⟨rfl, Or.inr ⟨nIne4 (by omega), rfl⟩⟩
    · exact ⟨rfl, Or.inl ⟨rfl, rfl⟩⟩
  · subst b
    have : btB (nI i) p1 = if ibc p1 ≤ ibc (nI i) then false else true := if_neg a
    rw [this]
    split
    · rw [if_neg (by decide)]; exact ⟨rfl, Or.inr ⟨a, rfl⟩⟩
    · rw [if_pos rfl]
      split
      · exact ⟨rfl, Or.inr ⟨nIne4 (by omega), rfl⟩⟩
      · exact ⟨rfl, Or.inr ⟨a, rfl⟩⟩
theorem p2le {n m : Nat} (h : n ≤ m) : 2 ^ n ≤ 2 ^ m := Nat.pow_le_pow_right (by decide) h
theorem not2 (x : Int32) : (!decide ((2 : Int32) ≤ x)) = !decide (1 < x) := by
  rw [decide_eq_decide.mpr (show ((2 : Int32) ≤ x) ↔ (1 < x) by rw [fa_le, fa_lt, show (2 : Int32).toInt = 2 from by decide, show (1 : Int32).toInt = 1 from by decide]; omega)]
theorem dig_all : ∀ n, n ≤ 5 → ∀ i, i < 32 → ¬ digM (nI i) n < 0 ∧ dwC n (nI i) = digM (nI i) n ∧ ¬ dwC n (nI i) = -4 := by decide +kernel
theorem sb_bits : ∀ n, n ≤ 5 → ∀ w, w < n → ∀ v, v < n → bt (((1 : Int32) <<< (nI n &&& 31) - 1) &&& ((1 : Int32) <<< (nI w &&& 31) ^^^ (-1))) v = bt ((1 : Int32) <<< (nI w &&& 31) ^^^ (-1)) v := by decide +kernel
section
variable {c : CS} {D : List ab_E} {Q : QT} {nw : Nat} {s : MS}
theorem ip_eq (h : RS c D Q nw s) {f : Nat} (hf : f < 6) (x : Int64) : ipB x (nI f) = if x = 0 then false else hasB (factsI x 1) (nI f) := by
  unfold ipB
  rw [hasB_b _ (by omega), ← faI_e]
  by_cases q : x = 0
  · rw [if_pos q, decide_eq_true q]; rfl
  · rw [if_neg q, decide_eq_false q]
    show decide _ = _
    rw [Bool.eq_iff_iff, faI_b x (by omega), decide_eq_true_eq, wW_not hf]
    exact ⟨fun z => ⟨hf, z⟩, fun z => z.2⟩
theorem eq_proof (h : RS c D Q nw s) {a : Int32} : proofC (Q (2 * 0)).2 (Q (2 * 0)).1 (Q (2 * 0 + 1)).2 (Q (2 * 0 + 1)).1 a = proofM s (Q (2 * 0)).1 (Q (2 * 0 + 1)).1 a := by
  unfold proofC proofM
  rw [inB6]
  refine if_cg fun q => ?_
  obtain ⟨f, hf, rfl⟩ := iw6 q
  have hn : 2 ^ (Q (2 * 0 + 1)).1 ≤ 1024 := p2le (rs_ns h)
  refine (best_eq (P := fun i => ipB (lbT (Q (2 * 0 + 1)).2 (Q (2 * 0 + 1)).1 (mbT (Q (2 * 0)).2 (Q (2 * 0)).1) (nI i)) (nI f)) hn (fun i hi => ibc10 i (by omega))).trans (acc_cg rfl fun i hi b => ?_)
  unfold prF
  refine if_cg fun _ => ?_
  rw [left_eq h, ip_eq h hf]
  by_cases z : lbT (Q (2 * 0 + 1)).2 (Q (2 * 0 + 1)).1 (mbT (Q (2 * 0)).2 (Q (2 * 0)).1) (nI i) = 0
  · rw [if_pos z, if_pos z, if_neg (by decide)]
  · rw [if_neg z, if_neg z]
theorem sb_eq (h : RS c D Q nw s) (p : Int32) : saidByI s (Q (2 * 0 + 1)).1 p = acc (tlG (Q (2 * 0 + 1)).2 p) 0 (Q (2 * 0 + 1)).1 := acc_cg rfl fun i hi b => by
  have h5 := rs_w5 h
  unfold sbF tlG
  obtain ⟨-, -, e, w, hw, e2⟩ := rs_say h hi
  rw [e, e2, hasB_b p (by omega)]
  by_cases q : bt p w = true
  · rw [if_pos q, if_neg (fun z => by rw [(b_sh0 p (by omega)).mp z] at q; cases q)]
  · rw [if_neg q, if_pos ((b_sh0 p (by omega)).mpr (ts_nt q))]
/-- only the witnesses' places of a set matter -/
theorem tl_cg (h : RS c D Q nw s) {p q : Int32} (e : ∀ v, v < nw → bt p v = bt q v) : acc (tlG (Q (2 * 0 + 1)).2 p) 0 (Q (2 * 0 + 1)).1 = acc (tlG (Q (2 * 0 + 1)).2 q) 0 (Q (2 * 0 + 1)).1 := acc_cg rfl fun i hi b => by
  have h5 := rs_w5 h
  unfold tlG
  obtain ⟨-, -, -, w, hw, e2⟩ := rs_say h hi
  rw [e2]
  by_cases z : bt p w = true
  · rw [if_neg (fun y => by rw [(b_sh0 p (by omega)).mp y] at z; cases z), if_neg (fun y => by rw [e w hw, (b_sh0 q (by omega)).mp y] at z; cases z)]
  · rw [if_pos ((b_sh0 p (by omega)).mpr (ts_nt z)), if_pos ((b_sh0 q (by omega)).mpr ((e w hw).symm.trans (ts_nt z)))]
theorem lt_eq (h : RS c D Q nw s) (p : Int32) : leftI s (Q (2 * 0)).1 (Q (2 * 0 + 1)).1 (saidByI s (Q (2 * 0 + 1)).1 p) = ltT (Q (2 * 0)).2 (Q (2 * 0)).1 (Q (2 * 0 + 1)).2 (Q (2 * 0 + 1)).1 p := by
  rw [left_eq h, sb_eq h]; rfl
theorem pl_eq (h : RS c D Q nw s) (p : Int32) : plB s (Q (2 * 0)).1 (Q (2 * 0 + 1)).1 p = ipT (Q (2 * 0)).2 (Q (2 * 0)).1 (Q (2 * 0 + 1)).2 (Q (2 * 0 + 1)).1 p := by
  unfold plB ipT
  rw [lt_eq h, not2]
theorem eq_plain (h : RS c D Q nw s) : plainC (Q (2 * 0)).2 (Q (2 * 0)).1 (Q (2 * 0 + 1)).2 (Q (2 * 0 + 1)).1 nw = plainM s (Q (2 * 0)).1 nw (Q (2 * 0 + 1)).1 := by
  have hn : 2 ^ nw ≤ 32 := p2le (rs_w5 h)
  refine (best_eq (P := fun i => ipT (Q (2 * 0)).2 (Q (2 * 0)).1 (Q (2 * 0 + 1)).2 (Q (2 * 0 + 1)).1 (nI i)) (by omega) (fun i hi => ibc5 i (by omega))).trans (acc_cg rfl fun i hi b => ?_)
  unfold plF
  rw [pl_eq h]
/-- the best set is one of the sets -/
theorem plM_in (s : MS) (nl nw ns : Nat) (hn : 2 ^ nw ≤ 32) : plainM s nl nw ns = -4 ∨ ∃ i, i < 2 ^ nw ∧ plainM s nl nw ns = nI i ∧ plB s nl ns (nI i) = true := by
  unfold plainM
  refine accI (fun j f => f = -4 ∨ ∃ i, i < j ∧ f = nI i ∧ plB s nl ns (nI i) = true) (Or.inl rfl) ?_
  intro i hi b hb
  have hb2 : b = -4 ∨ ∃ k, k < i + 1 ∧ b = nI k ∧ plB s nl ns (nI k) = true := by
    rcases hb with z | ⟨k, hk, z⟩
    · exact Or.inl z
    · exact Or.inr ⟨k, by omega, z⟩
  unfold plF
  split
  · split
    · exact Or.inr ⟨i, by omega, rfl, ‹_›⟩
    · exact hb2
  · exact hb2
theorem eq_order (h : RS c D Q nw s) {a : Int32} : orderC c (Q (2 * 0)).2 (Q (2 * 0)).1 (Q (2 * 0 + 1)).2 (Q (2 * 0 + 1)).1 nw a = orderM s (Q (2 * 0)).1 nw (Q (2 * 0 + 1)).1 a := by
  have h5 := rs_w5 h
  have hn : 2 ^ nw ≤ 32 := p2le (rs_w5 h)
  unfold orderC orderM
  rw [eo_iw, rs_w h, rs_m3 h, eq_plain h]
  refine if_cg fun q => ?_
  split
  · rfl
  split
  · rfl
  rename_i hp
  split
  · rfl
  unfold leastC
  rcases plM_in s (Q (2 * 0)).1 nw (Q (2 * 0 + 1)).1 hn with z | ⟨k, hk, e, hk2⟩
  · exact absurd z hp
  rw [e]
  have := accR (P := fun i b m => (b = -4 ∧ m = -1 ∧ i ≤ k) ∨ (b = m ∧ ¬ m < 0 ∧ ¬ b = -4)) (f := loG (Q (2 * 0)).2 (Q (2 * 0)).1 (Q (2 * 0 + 1)).2 (Q (2 * 0 + 1)).1 nw (ibc (nI k))) (g := ordF s (Q (2 * 0)).1 nw (Q (2 * 0 + 1)).1 (nI k)) (z := -4) (y := -1) (n := 2 ^ nw) (Or.inl ⟨rfl, rfl, Nat.zero_le _⟩) ?_
  · rcases this with ⟨-, -, y⟩ | ⟨y, -⟩
    · omega
    · exact y
  · intro i hi b m hb
    obtain ⟨d1, d2, d3⟩ := dig_all nw h5 i (by omega)
    unfold loG ordF
    rw [pl_eq h, d2]
    rw [d2] at d3
    by_cases q1 : ibc (nI i) = ibc (nI k)
    · rw [if_pos q1, if_pos q1]
      by_cases q2 : ipT (Q (2 * 0)).2 (Q (2 * 0)).1 (Q (2 * 0 + 1)).2 (Q (2 * 0 + 1)).1 (nI i) = true
      · rw [if_pos q2, if_pos q2]
        right
        rcases hb with ⟨rfl, rfl, -⟩ | ⟨rfl, y1, y2⟩
        · rw [if_pos rfl, if_pos (by decide)]; exact ⟨rfl, d1, d3⟩
        · rw [if_neg y2, if_neg y1]
          unfold minI
          by_cases q3 : digM (nI i) nw < b
          · rw [if_pos q3, if_neg (fa_of_lt q3).2.1]; exact ⟨rfl, d1, d3⟩
          · rw [if_neg q3, if_pos (fa_of_nlt q3)]; exact ⟨rfl, y1, y2⟩
      · rw [if_neg q2, if_neg q2]
        rcases hb with ⟨y, y1, y2⟩ | y
        · refine Or.inl ⟨y, y1, ?_⟩
          by_cases e : i = k
          · subst e; rw [pl_eq h] at hk2; exact absurd hk2 q2
          · omega
        · exact Or.inr y
    · rw [if_neg q1, if_neg q1]
      rcases hb with ⟨y, y1, y2⟩ | y
      · refine Or.inl ⟨y, y1, ?_⟩
        by_cases e : i = k
        · subst e; exact absurd rfl q1
        · omega
      · exact Or.inr y
theorem eq_without (h : RS c D Q nw s) {a : Int32} : withC c (Q (2 * 0)).2 (Q (2 * 0)).1 (Q (2 * 0 + 1)).2 (Q (2 * 0 + 1)).1 a = withoutM s (Q (2 * 0)).1 (Q (2 * 0 + 1)).1 a := by
  have h5 := rs_w5 h
  unfold withC withoutM
  rw [hw_iw (rs_w h) h5, rs_m3 h, leftA_eq h]
  refine if_cg fun q => ?_
  obtain ⟨j, hj, rfl⟩ := iwn (by omega) q
  rw [lt_eq h]
  unfold ltT
  rw [tl_cg h fun v hv => sb_bits nw h5 j hj v hv]
theorem lie_all : ∀ i, i < 288 → psI (nI i) = made (nI (i / 36)) (nI 0) (nI (i / 6 % 6)) (nI (i % 6)) ∧ f1C i = nI (i / 6 % 6) ∧ f2C i = nI (i % 6) ∧ 100 * (psI (nI i) / 1000) + (psI (nI i) - psI (nI i) / 100 * 100) = 100 * (nI i / 36) + 10 * f1C i + f2C i := by decide +kernel
theorem wc_eq {i : Nat} (hi : i < 288) : worldsN (psI (nI i)) 64 = wcC i := by
  obtain ⟨e1, e2, e3, -⟩ := lie_all i hi
  unfold wcC
  rw [e1, e2, e3]
  exact wS_N (by omega) (by omega) (by omega) (by omega)
theorem il_eq (h : RS c D Q nw s) {j : Nat} (hj : j < nw) {i : Nat} (hi : i < 288) : lieB s (psI (nI i)) j = ilB c i (nI j) := by
  have h5 := rs_w5 h
  obtain ⟨t, ht, e⟩ := rs_tt h
  obtain ⟨e1, e2, e3, -⟩ := lie_all i hi
  unfold lieB ilB wcC
  rw [kb_in (by omega), rs_t h, e, (rs_kn h hj).1, e1, e2, e3, wS_T (by omega) (by omega) (by omega) (by omega) ht, fcV_a _ (by omega) _ (by omega) _ (by omega) _ (by omega)]
  show _ = if fcV (i / 36) (nI 0) (nI (i / 6 % 6)) (nI (i % 6)) &&& (c.2.1 0 j ^^^ (-1)) = 0 then !hwB (wS (i / 36) (nI 0) (nI (i / 6 % 6)) (nI (i % 6))) (nI t) else false
  by_cases q : fcV (i / 36) (nI 0) (nI (i / 6 % 6)) (nI (i % 6)) &&& (c.2.1 0 j ^^^ (-1)) = 0
  · rw [if_pos q, decide_eq_true q]; rfl
  · rw [if_neg q, decide_eq_false q]; rfl
theorem eq_lie (h : RS c D Q nw s) {a b : Int32} : lieC c (lfT (Q (2 * 0)).2 (Q (2 * 0)).1 (Q (2 * 0 + 1)).2 (Q (2 * 0 + 1)).1) a b = lieM s (Q (2 * 0)).1 (Q (2 * 0 + 1)).1 a b := by
  have h5 := rs_w5 h
  unfold lieC lieM
  rw [hw_iw (rs_w h) h5, rs_m3 h]
  refine if_cg fun q => if_cg fun q2 => ?_
  obtain ⟨j, hj, rfl⟩ := iwn (by omega) q
  rw [tn_nI (by omega)]
  have : liP c (lfT (Q (2 * 0)).2 (Q (2 * 0)).1 (Q (2 * 0 + 1)).2 (Q (2 * 0 + 1)).1) (nI j) = lieP s (Q (2 * 0)).1 (Q (2 * 0 + 1)).1 j := by
    unfold liP lieP
    rw [leftA_eq h]
    refine acc_cg rfl fun i hi p => ?_
    unfold liG lieF
    rw [il_eq h hj hi, wc_eq hi, (lie_all i hi).2.2.2]
    refine if_cg fun _ => ?_
    by_cases q : lbc (lfT (Q (2 * 0)).2 (Q (2 * 0)).1 (Q (2 * 0 + 1)).2 (Q (2 * 0 + 1)).1 &&& (wcC i ^^^ (-1))) ≤ p.2.2
    · rw [if_pos q, if_neg (fun z => (fa_of_lt z).2.1 q)]
    · rw [if_neg q, if_pos (fa_of_nle q)]
  rw [this]
end
