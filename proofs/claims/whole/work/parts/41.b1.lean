/-! Int64 by its bits -/
def wb (x : Int64) (i : Nat) : Bool := x.toBitVec.getLsbD i
theorem w_ext {x y : Int64} (h : ∀ i, i < 64 → wb x i = wb y i) : x = y := Int64.toBitVec_inj.mp (BitVec.eq_of_getLsbD_eq (fun i hi => h i hi))
theorem w_or (x y : Int64) (i : Nat) : wb (x ||| y) i = (wb x i || wb y i) := by unfold wb; rw [Int64.toBitVec_or, BitVec.getLsbD_or]
theorem w_and (x y : Int64) (i : Nat) : wb (x &&& y) i = (wb x i && wb y i) := by unfold wb; rw [Int64.toBitVec_and, BitVec.getLsbD_and]
theorem w_xor (x y : Int64) (i : Nat) : wb (x ^^^ y) i = (wb x i ^^ wb y i) := by unfold wb; rw [Int64.toBitVec_xor, BitVec.getLsbD_xor]
theorem w_m1 : ∀ i, i < 64 → wb (-1) i = true := by decide +kernel
theorem w_0 (i : Nat) : wb 0 i = false := BitVec.getLsbD_zero
theorem w_not (x : Int64) {i : Nat} (hi : i < 64) : wb (x ^^^ (-1)) i = !wb x i := by rw [w_xor, w_m1 i hi]; cases wb x i <;> rfl
theorem w_bit : ∀ k, k < 64 → ∀ i, i < 64 → wb ((1 : Int64) <<< ((nI k).toInt64 &&& 63)) i = decide (i = k) := by decide +kernel
theorem w_zero {x : Int64} : x = 0 ↔ ∀ i, i < 64 → wb x i = false := ⟨fun h i _ => by rw [h]; exact w_0 i, fun h => w_ext fun i hi => by rw [h i hi, w_0]⟩
theorem w_su : ∀ k, k < 64 → ((nI k).toInt64.toUInt64 &&& Int64.toUInt64 63).toNat = k := by decide +kernel
theorem w_ss : ∀ k, k < 64 → (((nI k).toInt64 &&& 63).toBitVec.smod 64).toNat = k := by decide +kernel
theorem hwB_w (w : Int64) {k : Nat} (hk : k < 64) : hwB w (nI k) = wb w k := by
  unfold hwB
  have h := ts_bit (w := w) hk (w_su k hk)
  unfold wb
  by_cases q : w.toBitVec.getLsbD k = false
  · rw [decide_eq_true (h.mpr q), q]; rfl
  · rw [decide_eq_false (fun z => q (h.mp z)), ts_nf q]; rfl
theorem w_1 : ∀ i, i < 64 → wb 1 i = decide (i = 0) := by decide +kernel
theorem w_and1 (x : Int64) : x &&& 1 = 1 ↔ wb x 0 = true := by
  constructor
  · intro h
    have := congrArg (fun z => wb z 0) h
    simp only [w_and, w_1 0 (by decide)] at this
    simpa using this
  · intro h
    apply w_ext
    intro i hi
    rw [w_and, w_1 i hi]
    by_cases q : i = 0
    · subst q; rw [h]; rfl
    · rw [decide_eq_false q, Bool.and_false]
theorem w_sshr (x : Int64) {k : Nat} (hk : k < 64) : wb (x >>> ((nI k).toInt64 &&& 63)) 0 = wb x k := by
  unfold wb
  rw [Int64.toBitVec_shiftRight]
  show (x.toBitVec.sshiftRight (((nI k).toInt64 &&& 63).toBitVec.smod 64).toNat).getLsbD 0 = _
  rw [w_ss k hk, BitVec.getLsbD_sshiftRight]
  simp [hk]
theorem w_shb (w : Int64) {k : Nat} (hk : k < 64) : ((w >>> ((nI k).toInt64 &&& 63)) &&& 1 = 1) ↔ wb w k = true := (w_and1 _).trans (by rw [w_sshr w hk])
theorem w_shv (w : Int64) {k : Nat} (hk : k < 64) : ((w >>> ((nI k).toInt64 &&& 63)) &&& 1).toInt32 = bi (wb w k) := by
  have e : (w >>> ((nI k).toInt64 &&& 63)) &&& 1 = if wb w k = true then 1 else 0 := by
    split
    · exact (w_shb w hk).mpr ‹_›
    · apply w_ext
      intro i hi
      rw [w_and, w_1 i hi, w_0]
      by_cases q : i = 0
      · subst q; rw [w_sshr w hk, ts_nt ‹¬ wb w k = true›]; rfl
      · rw [decide_eq_false q, Bool.and_false]
  rw [e]
  cases wb w k <;> rfl
theorem b_1 : ∀ i, i < 32 → bt 1 i = decide (i = 0) := by decide +kernel
theorem b_and1 (x : Int32) : x &&& 1 = 1 ↔ bt x 0 = true := by
  constructor
  · intro h
    have := congrArg (fun z => bt z 0) h
    simp only [b_and, b_1 0 (by decide)] at this
    simpa using this
  · intro h
    apply b_ext
    intro i hi
    rw [b_and, b_1 i hi]
    by_cases q : i = 0
    · subst q; rw [h]; rfl
    · rw [decide_eq_false q, Bool.and_false]
theorem b_and0 (x : Int32) : x &&& 1 = 0 ↔ bt x 0 = false := by
  constructor
  · intro h
    have := congrArg (fun z => bt z 0) h
    simp only [b_and, b_1 0 (by decide)] at this
    rw [b_0] at this
    simpa using this
  · intro h
    apply b_ext
    intro i hi
    rw [b_and, b_1 i hi, b_0]
    by_cases q : i = 0
    · subst q; rw [h]; rfl
    · rw [decide_eq_false q, Bool.and_false]
theorem b_sr0 (x : Int32) {k : Nat} (hk : k < 32) : bt (x >>> (nI k &&& 31)) 0 = bt x k := by rw [b_sshr k hk x (by decide)]; rw [if_pos (by omega)]; rfl
theorem hasB_b (w : Int32) {k : Nat} (hk : k < 32) : hasB w (nI k) = bt w k := by
  unfold hasB
  by_cases q : bt w k = true
  · rw [decide_eq_true ((b_and1 _).mpr (by rw [b_sr0 w hk]; exact q)), q]
  · rw [decide_eq_false (fun z => q (by rw [← b_sr0 w hk]; exact (b_and1 _).mp z)), ts_nt q]
theorem b_sh0 (w : Int32) {k : Nat} (hk : k < 32) : ((w >>> (nI k &&& 31)) &&& 1 = 0) ↔ bt w k = false := (b_and0 _).trans (by rw [b_sr0 w hk])
theorem b_not (x : Int32) {i : Nat} (hi : i < 32) : bt (x ^^^ (-1)) i = !bt x i := by rw [b_xor, b_m1 i hi]; cases bt x i <;> rfl
theorem b_bit : ∀ k, k < 32 → ∀ i, i < 32 → bt ((1 : Int32) <<< (nI k &&& 31)) i = decide (i = k) := by decide +kernel
theorem b_zero {x : Int32} : x = 0 ↔ ∀ i, i < 32 → bt x i = false := ⟨fun h i _ => by rw [h]; exact b_0 i, fun h => b_ext fun i hi => by rw [h i hi, b_0]⟩
theorem b_nI (n : Nat) {i : Nat} (hi : i < 32) : bt (nI n) i = n.testBit i := by
  show (BitVec.ofNat 32 n).getLsbD i = _
  rw [BitVec.getLsbD_ofNat, decide_eq_true hi]; rfl
/-! loops -/
theorem acc_cg {σ : Type} {f g : Nat → σ → σ} {z z' : σ} {n : Nat} (hz : z = z') (h : ∀ i, i < n → ∀ b, f i b = g i b) : acc f z n = acc g z' n := by
  subst hz
  induction n with
  | zero => rfl
  | succ n ih => rw [acc_s, acc_s, ih (fun i hi => h i (by omega)), h n (by omega)]
theorem accI {σ : Type} (P : Nat → σ → Prop) {f : Nat → σ → σ} {z : σ} {n : Nat} (h0 : P 0 z) (h : ∀ i, i < n → ∀ b, P i b → P (i + 1) (f i b)) : P n (acc f z n) := by
  induction n with
  | zero => exact h0
  | succ n ih => exact h n (by omega) _ (ih (fun i hi => h i (by omega)))
theorem accR {σ τ : Type} (P : Nat → σ → τ → Prop) {f : Nat → σ → σ} {g : Nat → τ → τ} {z : σ} {y : τ} {n : Nat} (h0 : P 0 z y) (h : ∀ i, i < n → ∀ a b, P i a b → P (i + 1) (f i a) (g i b)) : P n (acc f z n) (acc g y n) := by
  induction n with
  | zero => exact h0
  | succ n ih => exact h n (by omega) _ _ (ih (fun i hi => h i (by omega)))
/-! a saying by its number -/
theorem cd_all : ∀ k, k < 8 → ∀ f, f < 10 → ∀ a, a < 6 → ∀ b, b < 6 → made (nI k) (nI f) (nI a) (nI b) / 1000 = nI k ∧
    made (nI k) (nI f) (nI a) (nI b) / 100 - made (nI k) (nI f) (nI a) (nI b) / 100 / 10 * 10 = nI f ∧
    made (nI k) (nI f) (nI a) (nI b) / 10 - made (nI k) (nI f) (nI a) (nI b) / 10 / 10 * 10 = nI a ∧
    made (nI k) (nI f) (nI a) (nI b) - made (nI k) (nI f) (nI a) (nI b) / 10 * 10 = nI b := by decide +kernel
theorem six : ∀ f, f < 10 → nI f - nI f / 6 * 6 = nI (f % 6) := by decide +kernel
theorem wW_b : ∀ a, a < 6 → ∀ t, t < 64 → wb (wW (nI a)) t = bt (nI t) a := by decide +kernel
theorem wN_b (s : Int32) {i : Nat} (hi : i < 64) : ∀ n, n ≤ 64 → wb (worldsN s n) i = (decide (i < n) && isTB s (nI i))
  | 0, _ => by rw [worldsN, w_0, decide_eq_false (by omega)]; rfl
  | n + 1, h => by
    have ih := wN_b s hi n (by omega)
    rw [worldsN]
    split
    · rw [w_or, ih, w_bit n (by omega) i hi]
      by_cases q : i = n
      · subst q; rw [decide_eq_true rfl, decide_eq_true (by omega : i < i + 1), Bool.or_true, ‹isTB s (nI i) = true›]; rfl
      · rw [decide_eq_false q, Bool.or_false]; congr 1; exact decide_eq_decide.mpr (by omega)
    · rw [ih]
      by_cases q : i = n
      · subst q; rw [ts_nt ‹¬ isTB s (nI i) = true›, Bool.and_false, Bool.and_false]
      · congr 1; exact decide_eq_decide.mpr (by omega)
theorem wN_64 (s : Int32) {i : Nat} (hi : i < 64) : wb (worldsN s 64) i = isTB s (nI i) := by rw [wN_b s hi 64 (by decide), decide_eq_true hi]; rfl
theorem wS_b {k f a b : Nat} (hk : k < 8) (hf : f < 10) (ha : a < 6) (hb : b < 6) {t : Nat} (ht : t < 64) : wb (wS k (nI f) (nI a) (nI b)) t = isTB (made (nI k) (nI f) (nI a) (nI b)) (nI t) := by
  obtain ⟨e1, e2, e3, e4⟩ := cd_all k hk f hf a ha b hb
  have hA : hasB (nI t) (nI a) = bt (nI t) a := hasB_b _ (by omega)
  have hB : hasB (nI t) (nI b) = bt (nI t) b := hasB_b _ (by omega)
  have hF : hasB (nI t) (nI (f % 6)) = bt (nI t) (f % 6) := hasB_b _ (by omega)
  unfold isTB wS
  rw [e1, e2, e3, e4, six f hf, hA, hB, hF]
  have wa := wW_b a ha t ht
  have wb' := wW_b b hb t ht
  have wf := wW_b (f % 6) (by omega) t ht
  rcases (by omega : k = 0 ∨ k = 1 ∨ k = 2 ∨ k = 3 ∨ k = 4 ∨ k = 5 ∨ k = 6 ∨ k = 7) with rfl | rfl | rfl | rfl | rfl | rfl | rfl | rfl
  · rw [if_pos (by decide)]; exact wa
  · rw [if_neg (by decide), if_pos (by decide)]; show wb (wW (nI a) ^^^ (-1)) t = _; rw [w_not _ ht, wa]
  · rw [if_neg (by decide), if_neg (by decide), if_pos (by decide)]; show wb (wW (nI a) &&& wW (nI b)) t = _; rw [w_and, wa, wb']
  · rw [if_neg (by decide), if_neg (by decide), if_neg (by decide), if_pos (by decide)]; show wb (wW (nI a) ||| wW (nI b)) t = _; rw [w_or, wa, wb']
  · rw [if_neg (by decide), if_neg (by decide), if_neg (by decide), if_neg (by decide), if_pos (by decide)]; show wb ((wW (nI a) ^^^ (-1)) ||| wW (nI b)) t = _; rw [w_or, w_not _ ht, wa, wb']
  · rw [if_neg (by decide), if_neg (by decide), if_neg (by decide), if_neg (by decide), if_neg (by decide), if_pos (by decide)]; show wb ((wW (nI a) ^^^ wW (nI b)) ^^^ (-1)) t = _; rw [w_not _ ht, w_xor, wa, wb']; cases bt (nI t) a <;> cases bt (nI t) b <;> rfl
  · rw [if_neg (by decide), if_neg (by decide), if_neg (by decide), if_neg (by decide), if_neg (by decide), if_neg (by decide), if_pos (by decide)]; exact w_0 _
  · rw [if_neg (by decide), if_neg (by decide), if_neg (by decide), if_neg (by decide), if_neg (by decide), if_neg (by decide), if_neg (by decide)]; show wb ((wW (nI a) ||| wW (nI b)) ||| wW (nI (f % 6))) t = _; rw [w_or, w_or, wa, wb', wf]; cases bt (nI t) a <;> cases bt (nI t) b <;> rfl
theorem wY_N {y : SY} (h : VY y) : worldsN (codeY y) 64 = wY y := w_ext fun i hi => by rw [wN_64 _ hi]; exact (wS_b h.1 h.2.1 h.2.2.1 h.2.2.2 hi).symm
theorem wY_T {y : SY} (h : VY y) {t : Nat} (ht : t < 64) : isTB (codeY y) (nI t) = hwB (wY y) (nI t) := by rw [hwB_w _ ht]; exact (wS_b h.1 h.2.1 h.2.2.1 h.2.2.2 ht).symm
theorem wS_N {k f a b : Nat} (hk : k < 8) (hf : f < 10) (ha : a < 6) (hb : b < 6) : worldsN (made (nI k) (nI f) (nI a) (nI b)) 64 = wS k (nI f) (nI a) (nI b) := wY_N (y := (0, k, f, a, b)) ⟨hk, hf, ha, hb⟩
theorem wS_T {k f a b : Nat} (hk : k < 8) (hf : f < 10) (ha : a < 6) (hb : b < 6) {t : Nat} (ht : t < 64) : isTB (made (nI k) (nI f) (nI a) (nI b)) (nI t) = hwB (wS k (nI f) (nI a) (nI b)) (nI t) := wY_T (y := (0, k, f, a, b)) ⟨hk, hf, ha, hb⟩ ht
theorem fcV_a : ∀ k, k < 8 → ∀ f, f < 10 → ∀ a, a < 6 → ∀ b, b < 6 → aboutI (made (nI k) (nI f) (nI a) (nI b)) = fcV k (nI f) (nI a) (nI b) := by decide +kernel
theorem wdV_a : ∀ k, k < 8 → ∀ f, f < 10 → ∀ a, a < 6 → ∀ b, b < 6 → sizeI (made (nI k) (nI f) (nI a) (nI b)) = wdV k (nI f) := by decide +kernel
theorem fcY_a {y : SY} (h : VY y) : aboutI (codeY y) = fcY y := fcV_a _ h.1 _ h.2.1 _ h.2.2.1 _ h.2.2.2
theorem wdY_a {y : SY} (h : VY y) : sizeI (codeY y) = wdY y := wdV_a _ h.1 _ h.2.1 _ h.2.2.1 _ h.2.2.2
theorem tdY_a {y : SY} (h : VY y) (what : Int32) : ofI (codeY y) what = tdY y what := by
  obtain ⟨e1, e2, e3, e4⟩ := cd_all _ h.1 _ h.2.1 _ h.2.2.1 _ h.2.2.2
  unfold ofI tdY codeY
  rw [e1, e2, e3, e4]
  rw [show sizeI (made (nI y.2.1) (nI y.2.2.1) (nI y.2.2.2.1) (nI y.2.2.2.2)) = wdY y from wdY_a h, show aboutI (made (nI y.2.1) (nI y.2.2.1) (nI y.2.2.2.1) (nI y.2.2.2.2)) = fcY y from fcY_a h]
