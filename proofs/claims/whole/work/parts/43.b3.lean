/-! the plain readers -/
theorem noL_v : noL = 4000000000000000001 := by decide +kernel
section
variable {c : CS} {D : List ab_E} {Q : QT} {nw : Nat} {s : MS}
theorem eq_law (h : RS c D Q nw s) {a b : Int32} : lawC c (Q (2 * 0)).2 a b = lawM s a b := by
  unfold lawC lawM
  rw [rs_c0 h, rs_m1 h]
  refine if_cg fun q => if_cg fun _ => ?_
  have hl := rs_nl h
  obtain ⟨j, hj, rfl⟩ := iwn (by omega) q
  rw [tn_nI (by omega), (rs_law h hj).2, tdY_a (rs_law h hj).1]
theorem eq_said (h : RS c D Q nw s) {a b : Int32} : saidC c (Q (2 * 0 + 1)).2 a b = saidM s a b := by
  unfold saidC saidM
  rw [rs_c1 h, rs_m5 h, rs_t h]
  refine if_cg fun q => if_cg fun _ => ?_
  have hl := rs_ns h
  obtain ⟨j, hj, rfl⟩ := iwn (by omega) q
  obtain ⟨v, e1, e2, -⟩ := rs_say h hj
  obtain ⟨t, ht, e3⟩ := rs_tt h
  rw [tn_nI (by omega), e1, e2, tdY_a v, e3, wY_T v ht]
  by_cases h6 : b = 6
  · subst h6; rw [if_neg (by decide), if_pos rfl, if_pos rfl]
  · rw [if_neg h6, if_neg h6]; rfl
theorem eq_knows (h : RS c D Q nw s) {a : Int32} : knowC c a = knowsM s a := by
  unfold knowC knowsM
  have h5 := rs_w5 h
  rw [hw_iw (rs_w h) h5, rs_m3 h]
  refine if_cg fun q => ?_
  obtain ⟨j, hj, rfl⟩ := iwn (by omega) q
  rw [kb_in (by omega), tn_nI (by omega), (rs_kn h hj).1]
theorem on_N (h : RS c D Q nw s) {d : Nat} (hd : d < 8) (e : c.1 (50 + d) = 1) {a b : Nat} (ha : a < 6) (hb : b < 6) : worldsN (onS s d (nI a) (nI b)) 64 = shW c d (nI a) (nI b) ∧ ∀ t, t < 64 → isTB (onS s d (nI a) (nI b)) (nI t) = hwB (shW c d (nI a) (nI b)) (nI t) := by
  obtain ⟨-, k, f, hk, hf, e1, e2, e3, e4⟩ := sr_1 (rs_sr h hd) e
  unfold onS shW
  rw [e1, e2, e3, e4]
  exact ⟨wS_N hk hf ha hb, fun t ht => wS_T hk hf ha hb ht⟩
theorem eq_isTrue (h : RS c D Q nw s) {a b d e : Int32} : trueC c a b d e = isTrueM s a b d e := by
  unfold trueC isTrueM
  rw [inB6, inB6, inB64]
  refine if_cg fun q => if_cg fun qb => if_cg fun qd => if_cg fun qe => ?_
  obtain ⟨j, hj, rfl⟩ := iw8 q
  obtain ⟨x, hx, rfl⟩ := iw6 qb
  obtain ⟨y, hy, rfl⟩ := iw6 qd
  obtain ⟨t, ht, rfl⟩ := iw_ex (n := 64) (by decide) (by decide) qe
  rw [tn_nI (by omega)]
  refine shS_if (rs_sr h hj) fun z => ?_
  rw [(on_N h hj z hx hy).2 t ht]; rfl
theorem eq_worlds (h : RS c D Q nw s) {a : Int32} : wldC (Q (2 * 0)).2 (Q (2 * 0)).1 (Q (2 * 0 + 1)).2 (Q (2 * 0 + 1)).1 a = worldsM s (Q (2 * 0)).1 (Q (2 * 0 + 1)).1 a := by
  unfold wldC worldsM
  rw [eo_iw, leftA_eq h, mb_eq h, noL_v]
theorem eq_many (h : RS c D Q nw s) {a : Int32} : manyC (Q (2 * 0)).2 (Q (2 * 0)).1 (Q (2 * 0 + 1)).2 (Q (2 * 0 + 1)).1 a = manyM s (Q (2 * 0)).1 (Q (2 * 0 + 1)).1 a := by
  unfold manyC manyM
  rw [eo_iw, leftA_eq h, mb_eq h]
  refine if_cg fun _ => ?_
  split <;> rfl
theorem to_eq (h : RS c D Q nw s) {t : Nat} (ht : t < 64) : toT (Q (2 * 0 + 1)).2 (Q (2 * 0 + 1)).1 (nI t) = acc (fun i b => if isTB (s.2.1 6 i) (nI t) = true then b ||| (1 : Int32) <<< (nI i &&& 31) else b) 0 (Q (2 * 0 + 1)).1 := acc_cg rfl fun i hi b => by
  unfold toG
  rw [(rs_say h hi).2.1, wY_T (rs_say h hi).1 ht]
theorem sl_eq (h : RS c D Q nw s) : acc (slF s) 0 (Q (2 * 0 + 1)).1 = toT (Q (2 * 0 + 1)).2 (Q (2 * 0 + 1)).1 (s.1 0) := by
  obtain ⟨t, ht, e⟩ := rs_tt h
  rw [e, to_eq h ht]
  exact acc_cg rfl fun i hi b => by unfold slF; rw [e]
theorem eq_slips (h : RS c D Q nw s) {a : Int32} : slipC (Q (2 * 0 + 1)).2 (Q (2 * 0 + 1)).1 (c.1 (20 + 0)) a = slipsM s (Q (2 * 0 + 1)).1 a := by
  unfold slipC slipsM
  rw [eo_iw, rs_t h, sl_eq h]
theorem bt_one {k i : Nat} (hk : k < 32) (hi : i < 32) : bt ((1 : Int32) <<< (nI k &&& 31)) i = decide (i = k) := b_bit k hk i hi
/-- what is left if one is false -/
theorem left_1 {qs : Nat → SY} {ns : Nat} {w : Int64} (hn : ns ≤ 10) {k : Nat} (hk : k < ns) : lbT qs ns w ((1 : Int32) <<< (nI k &&& 31)) = w &&& (wY (qs k) ^^^ (-1)) := w_ext fun t ht => by
  rw [Bool.eq_iff_iff, lbT_b hn ht, w_and, w_not _ ht, Bool.and_eq_true]
  constructor
  · intro h
    exact ⟨h.1, by rw [h.2 k hk (by rw [bt_one (by omega) (by omega)]; exact decide_eq_true rfl)]; rfl⟩
  · intro h
    refine ⟨h.1, fun i hi hb => ?_⟩
    rw [bt_one (by omega) (by omega)] at hb
    have := of_decide_eq_true hb
    subst this
    have := h.2
    cases q : wb (wY (qs i)) t
    · rfl
    · rw [q] at this; cases this
theorem left_2 {qs : Nat → SY} {ns : Nat} {w : Int64} (hn : ns ≤ 10) {k j : Nat} (hk : k < ns) (hj : j < ns) : lbT qs ns w ((1 : Int32) <<< (nI k &&& 31) ||| (1 : Int32) <<< (nI j &&& 31)) = (w &&& (wY (qs k) ^^^ (-1))) &&& (w &&& (wY (qs j) ^^^ (-1))) := w_ext fun t ht => by
  rw [Bool.eq_iff_iff, lbT_b hn ht, w_and, w_and, w_and, w_not _ ht, w_not _ ht, Bool.and_eq_true, Bool.and_eq_true, Bool.and_eq_true]
  constructor
  · intro h
    exact ⟨⟨h.1, by rw [h.2 k hk (by rw [b_or, bt_one (by omega) (by omega), decide_eq_true rfl]; rfl)]; rfl⟩, h.1, by rw [h.2 j hj (by rw [b_or, bt_one (k := j) (by omega) (by omega), decide_eq_true rfl, Bool.or_true])]; rfl⟩
  · intro h
    refine ⟨h.1.1, fun i hi hb => ?_⟩
    rw [b_or, bt_one (by omega) (by omega), bt_one (by omega) (by omega), Bool.or_eq_true] at hb
    have e : wb (wY (qs i)) t = true → False := by
      rcases hb with hb | hb
      · have := of_decide_eq_true hb
        subst this
        intro z; have := h.1.2; rw [z] at this; cases this
      · have := of_decide_eq_true hb
        subst this
        intro z; have := h.2.2; rw [z] at this; cases this
    exact ts_nt e
theorem eq_alone (h : RS c D Q nw s) {a : Int32} : aloneC c (Q (2 * 0)).2 (Q (2 * 0)).1 (Q (2 * 0 + 1)).2 a = aloneM s (Q (2 * 0)).1 (Q (2 * 0 + 1)).1 a := by
  unfold aloneC aloneM
  rw [rs_c1 h, rs_m5 h]
  refine if_cg fun q => ?_
  have hl := rs_ns h
  obtain ⟨j, hj, rfl⟩ := iwn (by omega) q
  rw [tn_nI (by omega), left_eq h, left_1 hl hj]
theorem fnd_cg {c1 c2 : Nat → Bool} : ∀ k i, (∀ j, i ≤ j → j < i + k → c1 j = c2 j) → fnd c1 k i = fnd c2 k i
  | 0, i, _ => rfl
  | k + 1, i, h => by
    unfold fnd
    rw [h i (by omega) (by omega), fnd_cg k (i + 1) fun j hj hk => h j (by omega) (by omega)]
theorem clR_cg {n : Nat} {c1 c2 : Nat → Nat → Bool} : ∀ k i, (i + k ≤ n) → (∀ i j, i < n → j < n → c1 i j = c2 i j) → clR n c1 k i = clR n c2 k i
  | 0, _, _, _ => rfl
  | k + 1, i, hk, h => by
    unfold clR
    rw [fnd_cg (n - (i + 1)) (i + 1) fun j hj hk => h i j (by omega) (by omega), clR_cg k (i + 1) (by omega) h]
theorem eq_clash (h : RS c D Q nw s) : clR (Q (2 * 0 + 1)).1 (clQ (Q (2 * 0)).2 (Q (2 * 0)).1 (Q (2 * 0 + 1)).2) (Q (2 * 0 + 1)).1 0 = clR (Q (2 * 0 + 1)).1 (clC s (Q (2 * 0)).1 (Q (2 * 0 + 1)).1) (Q (2 * 0 + 1)).1 0 :=
  clR_cg _ _ (by omega) fun i j hi hj => by
    have hl := rs_ns h
    unfold clQ clC
    rw [left_eq h, left_eq h, left_eq h, left_1 hl hi, left_1 hl hj, left_2 hl hi hj]
    rw [← Bool.and_assoc, Bool.and_comm]
theorem eq_tells (h : RS c D Q nw s) {a b d : Int32} : tellsC c (lfT (Q (2 * 0)).2 (Q (2 * 0)).1 (Q (2 * 0 + 1)).2 (Q (2 * 0 + 1)).1) a b d = tellsM s (Q (2 * 0)).1 (Q (2 * 0 + 1)).1 a b d := by
  unfold tellsC tellsM
  rw [inB6, inB6, leftA_eq h]
  refine if_cg fun q => if_cg fun qb => if_cg fun qd => ?_
  obtain ⟨j, hj, rfl⟩ := iw8 q
  obtain ⟨x, hx, rfl⟩ := iw6 qb
  obtain ⟨y, hy, rfl⟩ := iw6 qd
  rw [tn_nI (by omega)]
  refine shS_if (rs_sr h hj) fun z => ?_
  rw [(on_N h hj z hx hy).1]
theorem eq_verdict (h : RS c D Q nw s) : acc (vdG (Q (2 * 0 + 1)).2) (c.1 (20 + 0)) (Q (2 * 0 + 1)).1 = verdictM s (Q (2 * 0 + 1)).1 := acc_cg (rs_t h) fun i hi b => by
  unfold vdG vdF
  rw [(rs_say h hi).2.1, fcY_a (rs_say h hi).1]
theorem prV_c : ∀ k, k < 8 → ∀ f, f < 10 → prV k (nI f) = if nI k = 0 then 2 else if nI k = 1 then 3 else if nI k = 2 then 4 else if nI k = 3 then 9 else if nI k = 4 then 8 else if nI k = 5 then 4 + nI f else if nI k = 6 then 30 else 9 + nI f := by decide +kernel
theorem pr_cost {c : CS} {s : MS} {d : Nat} (h : SR c s d) (e : c.1 (50 + d) = 1) : prV (skc c d) (c.1 (60 + d)) = costS s d := by
  obtain ⟨-, k, f, hk, hf, e1, e2, e3, e4⟩ := sr_1 h e
  unfold costS
  rw [e1, e2, e3, e4]
  exact prV_c k hk f hf
theorem eq_cost (h : RS c D Q nw s) {a : Int32} : coC c a = costM s a := by
  unfold coC costM
  refine if_cg fun q => ?_
  obtain ⟨j, hj, rfl⟩ := iw8 q
  rw [tn_nI (by omega)]
  exact shS_if (rs_sr h hj) fun z => pr_cost (rs_sr h hj) z
theorem flV_c : ∀ k, k < 8 → ∀ f, f < 10 → (if k = 6 then (-15 : Int32) else if nI f = 0 then -15 else flV k (nI f)) = if nI k = 6 then -15 else if nI f = 0 then -15 else if 2 ≤ nI k then (if nI k = 7 then 200 + prV k (nI f) else 100 + nI f) else nI f := by decide +kernel
theorem eq_toss (h : RS c D Q nw s) {a : Int32} : tosR c a = tossM s a := by
  unfold tosR tossM
  refine if_cg fun q => ?_
  obtain ⟨j, hj, rfl⟩ := iw8 q
  rw [tn_nI (by omega)]
  refine shS_if (rs_sr h hj) fun z => ?_
  rw [← pr_cost (rs_sr h hj) z]
  obtain ⟨-, k, f, hk, hf, e1, e2, e3, e4⟩ := sr_1 (rs_sr h hj) z
  rw [e1, e2, e3, e4]
  exact flV_c k hk f hf
theorem eq_count (h : RS c D Q nw s) {a : Int32} : cntC c (Q (2 * 0)).2 (Q (2 * 0)).1 (Q (2 * 0 + 1)).2 (Q (2 * 0 + 1)).1 a = countM s (Q (2 * 0)).1 (Q (2 * 0 + 1)).1 a := by
  unfold cntC countM
  obtain ⟨t, ht, e⟩ := rs_tt h
  rw [rs_c0 h, rs_w h, rs_c1 h, rs_t h, rs_m1 h, rs_m3 h, rs_m5 h, e, hwB_w _ ht, hwB_w _ ht, w_shv _ ht, w_shv _ ht, leftA_eq h, mb_eq h, show acc (wsG (Q (2 * 0 + 1)).2) 0 (Q (2 * 0 + 1)).1 = acc (ctF s) 0 (Q (2 * 0 + 1)).1 from acc_cg rfl fun i hi b => by unfold wsG ctF; rw [(rs_say h hi).2.1, wdY_a (rs_say h hi).1]]
end
