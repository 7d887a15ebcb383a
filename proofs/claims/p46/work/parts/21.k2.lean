def twV (k : Nat) (wa wb wf : Int64) : Int64 := match k with
  | 0 => wa | 1 => wa ^^^ (-1) | 2 => wa &&& wb | 3 => wa ||| wb | 4 => (wa ^^^ (-1)) ||| wb | 5 => (wa ^^^ wb) ^^^ (-1) | 6 => 0 | _ => (wa ||| wb) ||| wf
def wdV (k : Nat) (f : Int32) : Int32 := match k with
  | 0 => 3 | 1 => 3 + 1 | 2 => 3 + 2 | 3 => 3 + 2 + 1 | 4 => 2 * (3 + 2 + 1) | 5 => 3 + 2 + 3 | 6 => 3 + 1 + f | _ => 3 + 2 + 1 + f
def prV (k : Nat) (f : Int32) : Int32 := match k with
  | 0 => 2 | 1 => 2 + 1 | 2 => 2 * 2 | 3 => 2 * 2 + 5 | 4 => 2 * 2 + 5 - 1 | 5 => 2 * 2 + f | 6 => 10 * (2 + 1) | _ => 2 * 2 + 5 + f
def fcV (k : Nat) (f a b : Int32) : Int32 := match k with
  | 0 => fb a | 1 => fb a | 6 => fb a | 7 => (fb a ||| fb b) ||| fb (f - f / 6 * 6) | _ => fb a ||| fb b
def flV (k : Nat) (f : Int32) : Int32 := match k with
  | 0 => f | 1 => f | 6 => f | 7 => 200 + (2 * 2 + 5 + f) | _ => f + 100
def wS (k : Nat) (f a b : Int32) : Int64 := twV k (wW a) (wW b) (wW (f - f / 6 * 6))
/-- a saying: who, kind, figure, two facts -/
abbrev SY : Type := Int32 × Nat × Nat × Nat × Nat
def wY (y : SY) : Int64 := wS y.2.1 (nI y.2.2.1) (nI y.2.2.2.1) (nI y.2.2.2.2)
def wdY (y : SY) : Int32 := wdV y.2.1 (nI y.2.2.1)
def fcY (y : SY) : Int32 := fcV y.2.1 (nI y.2.2.1) (nI y.2.2.2.1) (nI y.2.2.2.2)
def syF (y : SY) : List Value := [.int y.1, .ref (kR y.2.1), .int (nI y.2.2.1), .int (nI y.2.2.2.1), .int (nI y.2.2.2.2), .long (wY y)]
def VY (y : SY) : Prop := y.2.1 < 8 ∧ y.2.2.1 < 10 ∧ y.2.2.2.1 < 6 ∧ y.2.2.2.2 < 6
def tdY (y : SY) (what : Int32) : Int32 := if what = 0 then nI y.2.1 else if what = 1 then nI y.2.2.1 else if what = 2 then nI y.2.2.2.1 else if what = 3 then nI y.2.2.2.2 else if what = 4 then wdY y else fcY y
/-- a list of sayings: what holds them, how many, which -/
def LI (D : List ab_E) (v : Value) (n : Nat) (q : Nat → SY) : Prop := (n = 0 ∧ v = .float 0) ∨ ∃ (e : Nat) (f : Nat → Option Nat), v = .ref (43 + e) ∧ D[e]? = some (.inl (2, 10, .inr (.inr (.inr (.inr f))))) ∧ ∀ i, i < n → ∃ r, f i = some (43 + r) ∧ D[r]? = some (.inr (8, syF (q i)))
def cL (c : CS) (D : List ab_E) (l n : Nat) (q : Nat → SY) : Prop := c.1 (30 + l) = nI n ∧ n ≤ 10 ∧ LI D (c.2.2.2 l) n q ∧ ∀ i, i < n → VY (q i)
theorem cL_get {c : CS} {D : List ab_E} {l n i : Nat} {q : Nat → SY} (h : cL c D l n q) (hi : i < n) : ∃ (e : Nat) (f : Nat → Option Nat) (r : Nat), c.2.2.2 l = .ref (43 + e) ∧ D[e]? = some (.inl (2, 10, .inr (.inr (.inr (.inr f))))) ∧ f i = some (43 + r) ∧ D[r]? = some (.inr (8, syF (q i))) := by
  obtain ⟨-, -, h3, -⟩ := h
  rcases h3 with ⟨rfl, -⟩ | ⟨e, f, h1, h2, h4⟩
  · omega
  · obtain ⟨r, g1, g2⟩ := h4 i hi
    exact ⟨e, f, r, h1, h2, g1, g2⟩
theorem vz_X8_worldsOf_19 {G : ab_G} (hG : ab_GG G) {c : CS} {M D : List ab_E} {k : Nat} (hk : k < 8) : ∃ (Z : ab_M) (ci : Nat) (fs : List Value), (cH c M D)[kR k]? = some (.inr (ci, fs)) ∧ ab_sV mX8_worldsOf 19 ci Z 3 ∧ ∀ (wa : Int64) (wb : Int64) (wf : Int64), ab_CM G Z [.ref (kR k), .long wa, .long wb, .long wf] (cH c M D) (some (.long (twV k wa wb wf))) (cH c M D) := by
  obtain rfl | rfl | rfl | rfl | rfl | rfl | rfl | rfl : k = 0 ∨ k = 1 ∨ k = 2 ∨ k = 3 ∨ k = 4 ∨ k = 5 ∨ k = 6 ∨ k = 7 := by omega
  · exact ⟨_, _, _, cH_get rfl, ss_X8_worldsOf_19_9, fun wa wb wf => cm_X8_trueWorlds hG (cH_get rfl) rfl⟩
  · exact ⟨_, _, _, cH_get rfl, ss_X8_worldsOf_19_3, fun wa wb wf => cm_X2_trueWorlds hG (cH_get rfl) rfl⟩
  · exact ⟨_, _, _, cH_get rfl, ss_X8_worldsOf_19_2, fun wa wb wf => cm_X1_trueWorlds hG (cH_get rfl) rfl⟩
  · exact ⟨_, _, _, cH_get rfl, ss_X8_worldsOf_19_4, fun wa wb wf => cm_X3_trueWorlds hG (cH_get rfl) rfl⟩
  · exact ⟨_, _, _, cH_get rfl, ss_X8_worldsOf_19_6, fun wa wb wf => cm_X5_trueWorlds hG (cH_get rfl) rfl⟩
  · exact ⟨_, _, _, cH_get rfl, ss_X8_worldsOf_19_1, fun wa wb wf => cm_X0_trueWorlds hG (cH_get rfl) rfl⟩
  · exact ⟨_, _, _, cH_get rfl, ss_X8_worldsOf_19_5, fun wa wb wf => cm_X4_trueWorlds hG (cH_get rfl) rfl⟩
  · exact ⟨_, _, _, cH_get rfl, ss_X8_worldsOf_19_7, fun wa wb wf => cm_X6_trueWorlds hG (cH_get rfl) rfl⟩
theorem cm_X8_worldsOf {G : ab_G} (hG : ab_GG G) {c : CS} {M D : List ab_E} (hM : M.length = 1) {k : Nat} (hk : k < 8) {f a b : Int32} : ab_CM G mX8_worldsOf [.ref (kR k), .int f, .int a, .int b] (cH c M D) (some (.long (wS k f a b))) (cH c M D) := by
  refine ab_meth (l0 := [(0, .ref (kR k)), (1, .int f), (2, .int a), (3, .int b)]) hG (by decide +kernel) rfl (Nat.le_of_ble_eq_true rfl) (Nat.le_refl _) (Nat.le_refl _) (fun X hX hF => ?_)
  refine ab_aload_n hX dX8_worldsOf_0 mm0 ?_
  refine ab_iload_n hX dX8_worldsOf_1 mm2 ?_
  refine ab_callS1r hX dX8_worldsOf_2 ss_X8_worldsOf_15 (cm_X11_worldsWith hG) (Nat.le_of_ble_eq_true rfl) ?_
  refine ab_iload_n hX dX8_worldsOf_5 mm3 ?_
  refine ab_callS1r hX dX8_worldsOf_6 ss_X8_worldsOf_15 (cm_X11_worldsWith hG) (Nat.le_of_ble_eq_true rfl) ?_
  refine ab_iload_n hX dX8_worldsOf_9 mm1 ?_
  refine ab_bipush (v := 6) hX dX8_worldsOf_10 (by decide) ?_
  refine ab_irem hX dX8_worldsOf_12 (by decide) ?_
  refine ab_callS1r hX dX8_worldsOf_13 ss_X8_worldsOf_15 (cm_X11_worldsWith hG) (Nat.le_of_ble_eq_true rfl) ?_
  obtain ⟨Z_, ci_, fs_, hg_, hs_, hc_⟩ := vz_X8_worldsOf_19 hG (c := c) (M := M) (D := D) hk
  refine ab_callV3r hX dX8_worldsOf_16 hg_ hs_ (hc_ _ _ _) (Nat.le_of_ble_eq_true rfl) ?_
  exact ab_lreturn hX hF dX8_worldsOf_19 rfl (congrArg some (congrArg Value.long (by rfl))) (by rfl)
theorem vz_X9_worldsOf_40 {G : ab_G} (hG : ab_GG G) {c : CS} {M D : List ab_E} (hM : M.length = 1) {k : Nat} (hk : k < 8) : ∃ (Z : ab_M) (ci : Nat) (fs : List Value), (cH c M D)[kR k]? = some (.inr (ci, fs)) ∧ ab_sV mX9_worldsOf 40 ci Z 3 ∧ ∀ (f a b : Int32), ab_CM G Z [.ref (kR k), .int f, .int a, .int b] (cH c M D) (some (.long (wS k f a b))) (cH c M D) := by
  obtain rfl | rfl | rfl | rfl | rfl | rfl | rfl | rfl : k = 0 ∨ k = 1 ∨ k = 2 ∨ k = 3 ∨ k = 4 ∨ k = 5 ∨ k = 6 ∨ k = 7 := by omega
  · exact ⟨_, _, _, cH_get rfl, ss_X9_worldsOf_40_9, fun f a b => cm_X8_worldsOf hG hM (k := 0) (by decide)⟩
  · exact ⟨_, _, _, cH_get rfl, ss_X9_worldsOf_40_3, fun f a b => cm_X8_worldsOf hG hM (k := 1) (by decide)⟩
  · exact ⟨_, _, _, cH_get rfl, ss_X9_worldsOf_40_2, fun f a b => cm_X8_worldsOf hG hM (k := 2) (by decide)⟩
  · exact ⟨_, _, _, cH_get rfl, ss_X9_worldsOf_40_4, fun f a b => cm_X8_worldsOf hG hM (k := 3) (by decide)⟩
  · exact ⟨_, _, _, cH_get rfl, ss_X9_worldsOf_40_6, fun f a b => cm_X8_worldsOf hG hM (k := 4) (by decide)⟩
  · exact ⟨_, _, _, cH_get rfl, ss_X9_worldsOf_40_1, fun f a b => cm_X8_worldsOf hG hM (k := 5) (by decide)⟩
  · exact ⟨_, _, _, cH_get rfl, ss_X9_worldsOf_40_5, fun f a b => cm_X8_worldsOf hG hM (k := 6) (by decide)⟩
  · exact ⟨_, _, _, cH_get rfl, ss_X9_worldsOf_40_7, fun f a b => cm_X8_worldsOf hG hM (k := 7) (by decide)⟩
theorem vz_X11_newSaying_393 {G : ab_G} (hG : ab_GG G) {c : CS} {M D : List ab_E} (hM : M.length = 1) {k : Nat} (hk : k < 8) : ∃ (Z : ab_M) (ci : Nat) (fs : List Value), (cH c M D)[kR k]? = some (.inr (ci, fs)) ∧ ab_sV mX11_newSaying 393 ci Z 3 ∧ ∀ (f a b : Int32), ab_CM G Z [.ref (kR k), .int f, .int a, .int b] (cH c M D) (some (.long (wS k f a b))) (cH c M D) := by
  obtain rfl | rfl | rfl | rfl | rfl | rfl | rfl | rfl : k = 0 ∨ k = 1 ∨ k = 2 ∨ k = 3 ∨ k = 4 ∨ k = 5 ∨ k = 6 ∨ k = 7 := by omega
  · exact ⟨_, _, _, cH_get rfl, ss_X11_newSaying_393_9, fun f a b => cm_X8_worldsOf hG hM (k := 0) (by decide)⟩
  · exact ⟨_, _, _, cH_get rfl, ss_X11_newSaying_393_3, fun f a b => cm_X8_worldsOf hG hM (k := 1) (by decide)⟩
  · exact ⟨_, _, _, cH_get rfl, ss_X11_newSaying_393_2, fun f a b => cm_X8_worldsOf hG hM (k := 2) (by decide)⟩
  · exact ⟨_, _, _, cH_get rfl, ss_X11_newSaying_393_4, fun f a b => cm_X8_worldsOf hG hM (k := 3) (by decide)⟩
  · exact ⟨_, _, _, cH_get rfl, ss_X11_newSaying_393_6, fun f a b => cm_X8_worldsOf hG hM (k := 4) (by decide)⟩
  · exact ⟨_, _, _, cH_get rfl, ss_X11_newSaying_393_1, fun f a b => cm_X8_worldsOf hG hM (k := 5) (by decide)⟩
  · exact ⟨_, _, _, cH_get rfl, ss_X11_newSaying_393_5, fun f a b => cm_X8_worldsOf hG hM (k := 6) (by decide)⟩
  · exact ⟨_, _, _, cH_get rfl, ss_X11_newSaying_393_7, fun f a b => cm_X8_worldsOf hG hM (k := 7) (by decide)⟩
theorem vz_X11_worldsOfCode_393 {G : ab_G} (hG : ab_GG G) {c : CS} {M D : List ab_E} (hM : M.length = 1) {k : Nat} (hk : k < 8) : ∃ (Z : ab_M) (ci : Nat) (fs : List Value), (cH c M D)[kR k]? = some (.inr (ci, fs)) ∧ ab_sV mX11_worldsOfCode 393 ci Z 3 ∧ ∀ (f a b : Int32), ab_CM G Z [.ref (kR k), .int f, .int a, .int b] (cH c M D) (some (.long (wS k f a b))) (cH c M D) := by
  obtain rfl | rfl | rfl | rfl | rfl | rfl | rfl | rfl : k = 0 ∨ k = 1 ∨ k = 2 ∨ k = 3 ∨ k = 4 ∨ k = 5 ∨ k = 6 ∨ k = 7 := by omega
  · exact ⟨_, _, _, cH_get rfl, ss_X11_worldsOfCode_393_9, fun f a b => cm_X8_worldsOf hG hM (k := 0) (by decide)⟩
  · exact ⟨_, _, _, cH_get rfl, ss_X11_worldsOfCode_393_3, fun f a b => cm_X8_worldsOf hG hM (k := 1) (by decide)⟩
  · exact ⟨_, _, _, cH_get rfl, ss_X11_worldsOfCode_393_2, fun f a b => cm_X8_worldsOf hG hM (k := 2) (by decide)⟩
  · exact ⟨_, _, _, cH_get rfl, ss_X11_worldsOfCode_393_4, fun f a b => cm_X8_worldsOf hG hM (k := 3) (by decide)⟩
  · exact ⟨_, _, _, cH_get rfl, ss_X11_worldsOfCode_393_6, fun f a b => cm_X8_worldsOf hG hM (k := 4) (by decide)⟩
  · exact ⟨_, _, _, cH_get rfl, ss_X11_worldsOfCode_393_1, fun f a b => cm_X8_worldsOf hG hM (k := 5) (by decide)⟩
  · exact ⟨_, _, _, cH_get rfl, ss_X11_worldsOfCode_393_5, fun f a b => cm_X8_worldsOf hG hM (k := 6) (by decide)⟩
  · exact ⟨_, _, _, cH_get rfl, ss_X11_worldsOfCode_393_7, fun f a b => cm_X8_worldsOf hG hM (k := 7) (by decide)⟩
theorem vz_X11_worldsOfDraws_393 {G : ab_G} (hG : ab_GG G) {c : CS} {M D : List ab_E} (hM : M.length = 1) {k : Nat} (hk : k < 8) : ∃ (Z : ab_M) (ci : Nat) (fs : List Value), (cH c M D)[kR k]? = some (.inr (ci, fs)) ∧ ab_sV mX11_worldsOfDraws 393 ci Z 3 ∧ ∀ (f a b : Int32), ab_CM G Z [.ref (kR k), .int f, .int a, .int b] (cH c M D) (some (.long (wS k f a b))) (cH c M D) := by
  obtain rfl | rfl | rfl | rfl | rfl | rfl | rfl | rfl : k = 0 ∨ k = 1 ∨ k = 2 ∨ k = 3 ∨ k = 4 ∨ k = 5 ∨ k = 6 ∨ k = 7 := by omega
  · exact ⟨_, _, _, cH_get rfl, ss_X11_worldsOfDraws_393_9, fun f a b => cm_X8_worldsOf hG hM (k := 0) (by decide)⟩
  · exact ⟨_, _, _, cH_get rfl, ss_X11_worldsOfDraws_393_3, fun f a b => cm_X8_worldsOf hG hM (k := 1) (by decide)⟩
  · exact ⟨_, _, _, cH_get rfl, ss_X11_worldsOfDraws_393_2, fun f a b => cm_X8_worldsOf hG hM (k := 2) (by decide)⟩
  · exact ⟨_, _, _, cH_get rfl, ss_X11_worldsOfDraws_393_4, fun f a b => cm_X8_worldsOf hG hM (k := 3) (by decide)⟩
  · exact ⟨_, _, _, cH_get rfl, ss_X11_worldsOfDraws_393_6, fun f a b => cm_X8_worldsOf hG hM (k := 4) (by decide)⟩
  · exact ⟨_, _, _, cH_get rfl, ss_X11_worldsOfDraws_393_1, fun f a b => cm_X8_worldsOf hG hM (k := 5) (by decide)⟩
  · exact ⟨_, _, _, cH_get rfl, ss_X11_worldsOfDraws_393_5, fun f a b => cm_X8_worldsOf hG hM (k := 6) (by decide)⟩
  · exact ⟨_, _, _, cH_get rfl, ss_X11_worldsOfDraws_393_7, fun f a b => cm_X8_worldsOf hG hM (k := 7) (by decide)⟩
theorem vz_X7_words_42 {G : ab_G} (hG : ab_GG G) {c : CS} {M D : List ab_E} {k : Nat} (hk : k < 8) : ∃ (Z : ab_M) (ci : Nat) (fs : List Value), (cH c M D)[kR k]? = some (.inr (ci, fs)) ∧ ab_sV mX7_words 42 ci Z 1 ∧ ∀ (f : Int32), ab_CM G Z [.ref (kR k), .int f] (cH c M D) (some (.int (wdV k f))) (cH c M D) := by
  obtain rfl | rfl | rfl | rfl | rfl | rfl | rfl | rfl : k = 0 ∨ k = 1 ∨ k = 2 ∨ k = 3 ∨ k = 4 ∨ k = 5 ∨ k = 6 ∨ k = 7 := by omega
  · exact ⟨_, _, _, cH_get rfl, ss_X7_words_42_9, fun f => cm_X8_words hG (cH_get rfl) rfl⟩
  · exact ⟨_, _, _, cH_get rfl, ss_X7_words_42_3, fun f => cm_X2_words hG (cH_get rfl) rfl⟩
  · exact ⟨_, _, _, cH_get rfl, ss_X7_words_42_2, fun f => cm_X1_words hG (cH_get rfl) rfl⟩
  · exact ⟨_, _, _, cH_get rfl, ss_X7_words_42_4, fun f => cm_X3_words hG (cH_get rfl) rfl⟩
  · exact ⟨_, _, _, cH_get rfl, ss_X7_words_42_6, fun f => cm_X5_words hG (cH_get rfl) rfl⟩
  · exact ⟨_, _, _, cH_get rfl, ss_X7_words_42_1, fun f => cm_X0_words hG (cH_get rfl) rfl⟩
  · exact ⟨_, _, _, cH_get rfl, ss_X7_words_42_5, fun f => cm_X4_words hG (cH_get rfl) rfl⟩
  · exact ⟨_, _, _, cH_get rfl, ss_X7_words_42_7, fun f => cm_X6_words hG (cH_get rfl) rfl⟩
theorem vz_X7_facts_45 {G : ab_G} (hG : ab_GG G) {c : CS} {M D : List ab_E} {k : Nat} (hk : k < 8) : ∃ (Z : ab_M) (ci : Nat) (fs : List Value), (cH c M D)[kR k]? = some (.inr (ci, fs)) ∧ ab_sV mX7_facts 45 ci Z 3 ∧ ∀ (f : Int32) (a : Int32) (b : Int32), ab_CM G Z [.ref (kR k), .int f, .int a, .int b] (cH c M D) (some (.int (fcV k f a b))) (cH c M D) := by
  obtain rfl | rfl | rfl | rfl | rfl | rfl | rfl | rfl : k = 0 ∨ k = 1 ∨ k = 2 ∨ k = 3 ∨ k = 4 ∨ k = 5 ∨ k = 6 ∨ k = 7 := by omega
  · exact ⟨_, _, _, cH_get rfl, ss_X7_facts_45_9, fun f a b => cm_X8_facts hG (cH_get rfl) rfl⟩
  · exact ⟨_, _, _, cH_get rfl, ss_X7_facts_45_3, fun f a b => cm_X8_facts hG (cH_get rfl) rfl⟩
  · exact ⟨_, _, _, cH_get rfl, ss_X7_facts_45_2, fun f a b => cm_X1_facts hG (cH_get rfl) rfl⟩
  · exact ⟨_, _, _, cH_get rfl, ss_X7_facts_45_4, fun f a b => cm_X1_facts hG (cH_get rfl) rfl⟩
  · exact ⟨_, _, _, cH_get rfl, ss_X7_facts_45_6, fun f a b => cm_X1_facts hG (cH_get rfl) rfl⟩
  · exact ⟨_, _, _, cH_get rfl, ss_X7_facts_45_1, fun f a b => cm_X1_facts hG (cH_get rfl) rfl⟩
  · exact ⟨_, _, _, cH_get rfl, ss_X7_facts_45_5, fun f a b => cm_X8_facts hG (cH_get rfl) rfl⟩
  · exact ⟨_, _, _, cH_get rfl, ss_X7_facts_45_7, fun f a b => cm_X6_facts hG (cH_get rfl) rfl⟩
theorem vz_X11_isLie_435 {G : ab_G} (hG : ab_GG G) {c : CS} {M D : List ab_E} {k : Nat} (hk : k < 8) : ∃ (Z : ab_M) (ci : Nat) (fs : List Value), (cH c M D)[kR k]? = some (.inr (ci, fs)) ∧ ab_sV mX11_isLie 435 ci Z 3 ∧ ∀ (f : Int32) (a : Int32) (b : Int32), ab_CM G Z [.ref (kR k), .int f, .int a, .int b] (cH c M D) (some (.int (fcV k f a b))) (cH c M D) := by
  obtain rfl | rfl | rfl | rfl | rfl | rfl | rfl | rfl : k = 0 ∨ k = 1 ∨ k = 2 ∨ k = 3 ∨ k = 4 ∨ k = 5 ∨ k = 6 ∨ k = 7 := by omega
  · exact ⟨_, _, _, cH_get rfl, ss_X11_isLie_435_9, fun f a b => cm_X8_facts hG (cH_get rfl) rfl⟩
  · exact ⟨_, _, _, cH_get rfl, ss_X11_isLie_435_3, fun f a b => cm_X8_facts hG (cH_get rfl) rfl⟩
  · exact ⟨_, _, _, cH_get rfl, ss_X11_isLie_435_2, fun f a b => cm_X1_facts hG (cH_get rfl) rfl⟩
  · exact ⟨_, _, _, cH_get rfl, ss_X11_isLie_435_4, fun f a b => cm_X1_facts hG (cH_get rfl) rfl⟩
  · exact ⟨_, _, _, cH_get rfl, ss_X11_isLie_435_6, fun f a b => cm_X1_facts hG (cH_get rfl) rfl⟩
  · exact ⟨_, _, _, cH_get rfl, ss_X11_isLie_435_1, fun f a b => cm_X1_facts hG (cH_get rfl) rfl⟩
  · exact ⟨_, _, _, cH_get rfl, ss_X11_isLie_435_5, fun f a b => cm_X8_facts hG (cH_get rfl) rfl⟩
  · exact ⟨_, _, _, cH_get rfl, ss_X11_isLie_435_7, fun f a b => cm_X6_facts hG (cH_get rfl) rfl⟩
theorem fsk_X7_30 {M : ab_M} (hM : M.1.cls = RX7) {k : Nat} (hk : k < 8) : ab_fs M 30 (kC k) 0 := by
  obtain rfl | rfl | rfl | rfl | rfl | rfl | rfl | rfl : k = 0 ∨ k = 1 ∨ k = 2 ∨ k = 3 ∨ k = 4 ∨ k = 5 ∨ k = 6 ∨ k = 7 := by omega
  · exact fs_X7_30_9 hM
  · exact fs_X7_30_3 hM
  · exact fs_X7_30_2 hM
  · exact fs_X7_30_4 hM
  · exact fs_X7_30_6 hM
  · exact fs_X7_30_1 hM
  · exact fs_X7_30_5 hM
  · exact fs_X7_30_7 hM
theorem cm_X7_words {G : ab_G} (hG : ab_GG G) {c : CS} {M D : List ab_E} (hM : M.length = 1) {b : Nat} {y : SY} (hy : (cH c M D)[b]? = some (.inr (8, syF y))) (hv : VY y) : ab_CM G mX7_words [.ref b] (cH c M D) (some (.int (wdY y))) (cH c M D) := by
  refine ab_meth (l0 := [(0, .ref b)]) hG (by decide +kernel) rfl (Nat.le_of_ble_eq_true rfl) (Nat.le_refl _) (Nat.le_refl _) (fun X hX hF => ?_)
  refine ab_aload_n hX dX7_words_0 mm0 ?_
  refine ab_getfield hX dX7_words_1 (fs_X7_13_8 rfl) hy rfl ?_
  refine ab_aload_n hX dX7_words_4 mm0 ?_
  refine ab_getfield hX dX7_words_5 (fs_X7_17_8 rfl) hy rfl ?_
  obtain ⟨Z_, ci_, fs_, hg_, hs_, hc_⟩ := vz_X7_words_42 hG (c := c) (M := M) (D := D) hv.1
  refine ab_callV1r hX dX7_words_8 hg_ hs_ (hc_ _) (Nat.le_of_ble_eq_true rfl) ?_
  exact ab_ireturn hX hF dX7_words_11 rfl (by rfl) (congrArg some (congrArg Value.int (by rfl))) (by rfl)
theorem cm_X7_facts {G : ab_G} (hG : ab_GG G) {c : CS} {M D : List ab_E} (hM : M.length = 1) {b : Nat} {y : SY} (hy : (cH c M D)[b]? = some (.inr (8, syF y))) (hv : VY y) : ab_CM G mX7_facts [.ref b] (cH c M D) (some (.int (fcY y))) (cH c M D) := by
  refine ab_meth (l0 := [(0, .ref b)]) hG (by decide +kernel) rfl (Nat.le_of_ble_eq_true rfl) (Nat.le_refl _) (Nat.le_refl _) (fun X hX hF => ?_)
  refine ab_aload_n hX dX7_facts_0 mm0 ?_
  refine ab_getfield hX dX7_facts_1 (fs_X7_13_8 rfl) hy rfl ?_
  refine ab_aload_n hX dX7_facts_4 mm0 ?_
  refine ab_getfield hX dX7_facts_5 (fs_X7_17_8 rfl) hy rfl ?_
  refine ab_aload_n hX dX7_facts_8 mm0 ?_
  refine ab_getfield hX dX7_facts_9 (fs_X7_20_8 rfl) hy rfl ?_
  refine ab_aload_n hX dX7_facts_12 mm0 ?_
  refine ab_getfield hX dX7_facts_13 (fs_X7_23_8 rfl) hy rfl ?_
  obtain ⟨Z_, ci_, fs_, hg_, hs_, hc_⟩ := vz_X7_facts_45 hG (c := c) (M := M) (D := D) hv.1
  refine ab_callV3r hX dX7_facts_16 hg_ hs_ (hc_ _ _ _) (Nat.le_of_ble_eq_true rfl) ?_
  exact ab_ireturn hX hF dX7_facts_19 rfl (by rfl) (congrArg some (congrArg Value.int (by rfl))) (by rfl)
theorem cm_X7_told {G : ab_G} (hG : ab_GG G) {c : CS} {M D : List ab_E} (hM : M.length = 1) {b : Nat} {y : SY} (hy : (cH c M D)[b]? = some (.inr (8, syF y))) (hv : VY y) {what : Int32} : ab_CM G mX7_told [.ref b, .int what] (cH c M D) (some (.int (tdY y what))) (cH c M D) := by
  refine ab_meth (l0 := [(0, .ref b), (1, .int what)]) hG (by decide +kernel) rfl (Nat.le_of_ble_eq_true rfl) (Nat.le_refl _) (Nat.le_refl _) (fun X hX hF => ?_)
  refine ab_iload_n hX dX7_told_0 mm1 ?_
  rcases ab_sw0_4 (what) with h_1 | h_1 | h_1 | h_1 | h_1 | h_1
  ·
    refine ab_tsIn (tgt := 36) hX dX7_told_1 (by rw [h_1]; decide) (by rw [h_1]; decide) (off := 35) (by rw [h_1]; rfl) (by decide) ?_
    refine ab_aload_n hX dX7_told_36 mm0 ?_
    refine ab_getfield hX dX7_told_37 (fs_X7_13_8 rfl) hy rfl ?_
    refine ab_getfield hX dX7_told_40 (fsk_X7_30 rfl hv.1) (cg_k hv.1) rfl ?_
    exact ab_ireturn hX hF dX7_told_43 rfl (by rfl) (congrArg some (congrArg Value.int (by first | rfl | (simp only [tdY, h_1, ↓reduceIte, Bool.false_eq_true]; done) | (simp only [tdY, h_1, ↓reduceIte, Bool.false_eq_true]; rfl) | (unfold tdY; (repeat' split) <;> first | rfl | contradiction | (simp_all; done))))) (by rfl)
  ·
    refine ab_tsIn (tgt := 44) hX dX7_told_1 (by rw [h_1]; decide) (by rw [h_1]; decide) (off := 43) (by rw [h_1]; rfl) (by decide) ?_
    refine ab_aload_n hX dX7_told_44 mm0 ?_
    refine ab_getfield hX dX7_told_45 (fs_X7_17_8 rfl) hy rfl ?_
    exact ab_ireturn hX hF dX7_told_48 rfl (by rfl) (congrArg some (congrArg Value.int (by first | rfl | (simp only [tdY, h_1, ↓reduceIte, Bool.false_eq_true]; done) | (simp only [tdY, h_1, ↓reduceIte, Bool.false_eq_true]; rfl) | (unfold tdY; (repeat' split) <;> first | rfl | contradiction | (simp_all; done))))) (by rfl)
  ·
    refine ab_tsIn (tgt := 49) hX dX7_told_1 (by rw [h_1]; decide) (by rw [h_1]; decide) (off := 48) (by rw [h_1]; rfl) (by decide) ?_
    refine ab_aload_n hX dX7_told_49 mm0 ?_
    refine ab_getfield hX dX7_told_50 (fs_X7_20_8 rfl) hy rfl ?_
    exact ab_ireturn hX hF dX7_told_53 rfl (by rfl) (congrArg some (congrArg Value.int (by first | rfl | (simp only [tdY, h_1, ↓reduceIte, Bool.false_eq_true]; done) | (simp only [tdY, h_1, ↓reduceIte, Bool.false_eq_true]; rfl) | (unfold tdY; (repeat' split) <;> first | rfl | contradiction | (simp_all; done))))) (by rfl)
  ·
    refine ab_tsIn (tgt := 54) hX dX7_told_1 (by rw [h_1]; decide) (by rw [h_1]; decide) (off := 53) (by rw [h_1]; rfl) (by decide) ?_
    refine ab_aload_n hX dX7_told_54 mm0 ?_
    refine ab_getfield hX dX7_told_55 (fs_X7_23_8 rfl) hy rfl ?_
    exact ab_ireturn hX hF dX7_told_58 rfl (by rfl) (congrArg some (congrArg Value.int (by first | rfl | (simp only [tdY, h_1, ↓reduceIte, Bool.false_eq_true]; done) | (simp only [tdY, h_1, ↓reduceIte, Bool.false_eq_true]; rfl) | (unfold tdY; (repeat' split) <;> first | rfl | contradiction | (simp_all; done))))) (by rfl)
  ·
    refine ab_tsIn (tgt := 59) hX dX7_told_1 (by rw [h_1]; decide) (by rw [h_1]; decide) (off := 58) (by rw [h_1]; rfl) (by decide) ?_
    refine ab_aload_n hX dX7_told_59 mm0 ?_
    refine ab_callV0r hX dX7_told_60 hy ss_X7_told_35 (cm_X7_words hG hM hy hv) (Nat.le_of_ble_eq_true rfl) ?_
    exact ab_ireturn hX hF dX7_told_63 rfl (by rfl) (congrArg some (congrArg Value.int (by first | rfl | (simp only [tdY, h_1, ↓reduceIte, Bool.false_eq_true]; done) | (simp only [tdY, h_1, ↓reduceIte, Bool.false_eq_true]; rfl) | (unfold tdY; (repeat' split) <;> first | rfl | contradiction | (simp_all; done))))) (by rfl)
  ·
    refine ab_tsOut (tgt := 64) hX dX7_told_1 h_1.1 (by decide) ?_
    refine ab_aload_n hX dX7_told_64 mm0 ?_
    refine ab_callV0r hX dX7_told_65 hy ss_X7_told_39 (cm_X7_facts hG hM hy hv) (Nat.le_of_ble_eq_true rfl) ?_
    exact ab_ireturn hX hF dX7_told_68 rfl (by rfl) (congrArg some (congrArg Value.int (by first | rfl | (simp only [tdY, h_1, ↓reduceIte, Bool.false_eq_true]; done) | (simp only [tdY, h_1, ↓reduceIte, Bool.false_eq_true]; rfl) | (unfold tdY; (repeat' split) <;> first | rfl | contradiction | (simp_all; done))))) (by rfl)
def emB (c : CS) (d : Nat) : Bool := decide (c.1 (50 + d) = 0)
def rfU (c : CS) (d : Nat) (w : Int32) : Int32 := if c.1 (50 + d) = w then 0 else if c.1 (50 + d) = 0 then -11 else -12
def hpB (c : CS) (d : Nat) (i n : Int32) : Bool := !decide (i < 0) && (!decide (n < 0) && (!decide (c.1 (80 + d) < n) && (!decide (c.1 (80 + d) - n < i) && !decide (100 < c.1 (80 + d)))))
def nuA (c : CS) (d : Nat) (i : Int32) : Int32 := if hpB c d i 1 = true then c.2.1 (10 + d) (tn i) else 0
def loB (s v : Int32) : Int32 := if s = 0 then v.toInt8.toInt32 else if s = 1 then v.toInt16.toInt32 else v
def skB (c : CS) (d : Nat) (i : Int32) : Bool := if c.1 (70 + d) = 0 then decide (nuA c d i = -128) else if c.1 (70 + d) = 1 then decide (nuA c d i = -32768) else decide (nuA c d i = -2147483648)
/-- a row's length is in its numbers -/
theorem hp_ix {c : CS} {d : Nat} {i : Int32} (h : hpB c d i 1 = true) : ∃ j : Nat, i = nI j ∧ j < 100 ∧ tn i = j := by
  simp only [hpB, Bool.and_eq_true, Bool.not_eq_true', decide_eq_false_iff_not] at h
  obtain ⟨h1, h2, h3, h4, h5⟩ := h
  obtain ⟨j, hj, rfl⟩ := nI_of h1
  refine ⟨j, rfl, ?_, nI_clamp hj⟩
  have e5 : (c.1 (80 + d)).toInt ≤ 100 := by
    rw [Int32.lt_iff_toInt_lt] at h5
    exact Int.not_lt.mp h5
  have e3 : 1 ≤ (c.1 (80 + d)).toInt := by
    rw [Int32.lt_iff_toInt_lt] at h3
    exact Int.not_lt.mp h3
  have e6 : (c.1 (80 + d) - 1).toInt = (c.1 (80 + d)).toInt - 1 := by
    rw [Int32.toInt_sub]
    have e1 : (1 : Int32).toInt = 1 := by decide
    rw [e1]
    have : (c.1 (80 + d)).toInt - 1 < 2147483648 := by omega
    exact Int.bmod_eq_of_le (by omega) (by omega)
  rw [Int32.lt_iff_toInt_lt, e6, nI_toInt hj] at h4
  omega
theorem cm_X9_isEmpty {G : ab_G} (hG : ab_GG G) {c : CS} {M D : List ab_E} (hM : M.length = 1) {d : Nat} (hd : d < 8)  : ab_CM G mX9_isEmpty [.ref (26 + 2 * d)] (cH c M D) (some (.int (bi (emB c d)))) (cH c M D) := by
  refine ab_meth (l0 := [(0, .ref (26 + 2 * d))]) hG (by decide +kernel) rfl (Nat.le_of_ble_eq_true rfl) (Nat.le_refl _) (Nat.le_refl _) (fun X hX hF => ?_)
  refine ab_aload_n hX dX9_isEmpty_0 mm0 ?_
  refine ab_getfield hX dX9_isEmpty_1 (fs_X9_19_10 rfl) (cg_sd hd) rfl ?_
  refine ab_ifne (tgt := 11) hX dX9_isEmpty_4 (by decide) (fun h_1 => ?_) (fun h_1 => ?_)
  ·
    refine ab_iconst (v := 0) hX dX9_isEmpty_11 (by decide) ?_
    exact ab_ireturn hX hF dX9_isEmpty_12 rfl (by first | rfl | exact bi_n _) (congrArg some (congrArg Value.int (by simp [bi_t, bi_f, emB, h_1]))) (by rfl)
  ·
    refine ab_iconst (v := 1) hX dX9_isEmpty_7 (by decide) ?_
    refine ab_goto (tgt := 12) hX dX9_isEmpty_8 (by decide) ?_
    exact ab_ireturn hX hF dX9_isEmpty_12 rfl (by first | rfl | exact bi_n _) (congrArg some (congrArg Value.int (by simp [bi_t, bi_f, emB, h_1]))) (by rfl)
theorem cm_X9_refusalUnless {G : ab_G} (hG : ab_GG G) {c : CS} {M D : List ab_E} (hM : M.length = 1) {d : Nat} (hd : d < 8) {w : Int32} : ab_CM G mX9_refusalUnless [.ref (26 + 2 * d), .int w] (cH c M D) (some (.int (rfU c d w))) (cH c M D) := by
  refine ab_meth (l0 := [(0, .ref (26 + 2 * d)), (1, .int w)]) hG (by decide +kernel) rfl (Nat.le_of_ble_eq_true rfl) (Nat.le_refl _) (Nat.le_refl _) (fun X hX hF => ?_)
  refine ab_aload_n hX dX9_refusalUnless_0 mm0 ?_
  refine ab_getfield hX dX9_refusalUnless_1 (fs_X9_19_10 rfl) (cg_sd hd) rfl ?_
  refine ab_iload_n hX dX9_refusalUnless_4 mm1 ?_
  refine ab_icmpne (tgt := 10) hX dX9_refusalUnless_5 (by decide) (fun h_1 => ?_) (fun h_1 => ?_)
  ·
    refine ab_aload_n hX dX9_refusalUnless_10 mm0 ?_
    refine ab_callV0r hX dX9_refusalUnless_11 (cg_sd hd) ss_X9_refusalUnless_36 (cm_X9_isEmpty hG hM hd) (Nat.le_of_ble_eq_true rfl) ?_
    refine ab_ifeqB (tgt := 22) hX dX9_refusalUnless_14 (by decide) (fun h_2 => ?_) (fun h_2 => ?_)
    ·
      refine ab_bipush (v := (-12)) hX dX9_refusalUnless_22 (by decide) ?_
      exact ab_ireturn hX hF dX9_refusalUnless_24 rfl (by rfl) (congrArg some (congrArg Value.int (by first | rfl | (simp only [rfU, h_1, h_2, ↓reduceIte]; done) | (simp only [emB, decide_eq_true_eq, decide_eq_false_iff_not] at *; unfold rfU; (repeat' split) <;> first | rfl | contradiction)))) (by rfl)
    ·
      refine ab_bipush (v := (-11)) hX dX9_refusalUnless_17 (by decide) ?_
      refine ab_goto (tgt := 24) hX dX9_refusalUnless_19 (by decide) ?_
      exact ab_ireturn hX hF dX9_refusalUnless_24 rfl (by rfl) (congrArg some (congrArg Value.int (by first | rfl | (simp only [rfU, h_1, h_2, ↓reduceIte]; done) | (simp only [emB, decide_eq_true_eq, decide_eq_false_iff_not] at *; unfold rfU; (repeat' split) <;> first | rfl | contradiction)))) (by rfl)
  ·
    refine ab_iconst (v := 0) hX dX9_refusalUnless_8 (by decide) ?_
    exact ab_ireturn hX hF dX9_refusalUnless_9 rfl (by rfl) (congrArg some (congrArg Value.int (by first | rfl | (simp only [rfU, h_1, ↓reduceIte]; done) | (simp only [emB, decide_eq_true_eq, decide_eq_false_iff_not] at *; unfold rfU; (repeat' split) <;> first | rfl | contradiction)))) (by rfl)
theorem cm_X9_refusalAsSaying {G : ab_G} (hG : ab_GG G) {c : CS} {M D : List ab_E} (hM : M.length = 1) {d : Nat} (hd : d < 8)  : ab_CM G mX9_refusalAsSaying [.ref (26 + 2 * d)] (cH c M D) (some (.int (rfU c d 1))) (cH c M D) := by
  refine ab_meth (l0 := [(0, .ref (26 + 2 * d))]) hG (by decide +kernel) rfl (Nat.le_of_ble_eq_true rfl) (Nat.le_refl _) (Nat.le_refl _) (fun X hX hF => ?_)
  refine ab_aload_n hX dX9_refusalAsSaying_0 mm0 ?_
  refine ab_iconst (v := 1) hX dX9_refusalAsSaying_1 (by decide) ?_
  refine ab_callV1r hX dX9_refusalAsSaying_2 (cg_sd hd) ss_X9_refusalAsSaying_32 (cm_X9_refusalUnless hG hM hd) (Nat.le_of_ble_eq_true rfl) ?_
  exact ab_ireturn hX hF dX9_refusalAsSaying_5 rfl (by rfl) (congrArg some (congrArg Value.int (by rfl))) (by rfl)
theorem cm_X9_refusalAsRow {G : ab_G} (hG : ab_GG G) {c : CS} {M D : List ab_E} (hM : M.length = 1) {d : Nat} (hd : d < 8)  : ab_CM G mX9_refusalAsRow [.ref (26 + 2 * d)] (cH c M D) (some (.int (rfU c d 2))) (cH c M D) := by
  refine ab_meth (l0 := [(0, .ref (26 + 2 * d))]) hG (by decide +kernel) rfl (Nat.le_of_ble_eq_true rfl) (Nat.le_refl _) (Nat.le_refl _) (fun X hX hF => ?_)
  refine ab_aload_n hX dX9_refusalAsRow_0 mm0 ?_
  refine ab_iconst (v := 2) hX dX9_refusalAsRow_1 (by decide) ?_
  refine ab_callV1r hX dX9_refusalAsRow_2 (cg_sd hd) ss_X9_refusalAsRow_32 (cm_X9_refusalUnless hG hM hd) (Nat.le_of_ble_eq_true rfl) ?_
  exact ab_ireturn hX hF dX9_refusalAsRow_5 rfl (by rfl) (congrArg some (congrArg Value.int (by rfl))) (by rfl)
theorem cm_X9_worldsOf {G : ab_G} (hG : ab_GG G) {c : CS} {M D : List ab_E} (hM : M.length = 1) {d : Nat} (hd : d < 8) {kd : Nat} (hkd : kd < 8) (hkr : c.2.2.2 (10 + d) = .ref (kR kd)) {a b : Int32} : ab_CM G mX9_worldsOf [.ref (26 + 2 * d), .int a, .int b] (cH c M D) (some (.long (wS kd (c.1 (60 + d)) a b))) (cH c M D) := by
  refine ab_meth (l0 := [(0, .ref (26 + 2 * d)), (1, .int a), (2, .int b)]) hG (by decide +kernel) rfl (Nat.le_of_ble_eq_true rfl) (Nat.le_refl _) (Nat.le_refl _) (fun X hX hF => ?_)
  refine ab_aload_n hX dX9_worldsOf_0 mm0 ?_
  refine ab_getfield hX dX9_worldsOf_1 (fs_X9_15_10 rfl) (cg_sd hd) (by show some (c.2.2.2 (10 + d)) = _; rw [hkr]) ?_
  refine ab_aload_n hX dX9_worldsOf_4 mm0 ?_
  refine ab_getfield hX dX9_worldsOf_5 (fs_X9_23_10 rfl) (cg_sd hd) rfl ?_
  refine ab_iload_n hX dX9_worldsOf_8 mm1 ?_
  refine ab_iload_n hX dX9_worldsOf_9 mm2 ?_
  obtain ⟨Z_, ci_, fs_, hg_, hs_, hc_⟩ := vz_X9_worldsOf_40 hG (c := c) (M := M) (D := D) hM hkd
  refine ab_callV3r hX dX9_worldsOf_10 hg_ hs_ (hc_ _ _ _) (Nat.le_of_ble_eq_true rfl) ?_
  exact ab_lreturn hX hF dX9_worldsOf_13 rfl (congrArg some (congrArg Value.long (by rfl))) (by rfl)
theorem cm_X9_hasPlaces {G : ab_G} (hG : ab_GG G) {c : CS} {M D : List ab_E} (hM : M.length = 1) {d : Nat} (hd : d < 8) {i n : Int32} : ab_CM G mX9_hasPlaces [.ref (26 + 2 * d), .int i, .int n] (cH c M D) (some (.int (bi (hpB c d i n)))) (cH c M D) := by
  refine ab_meth (l0 := [(0, .ref (26 + 2 * d)), (1, .int i), (2, .int n)]) hG (by decide +kernel) rfl (Nat.le_of_ble_eq_true rfl) (Nat.le_refl _) (Nat.le_refl _) (fun X hX hF => ?_)
  refine ab_iload_n hX dX9_hasPlaces_0 mm1 ?_
  refine ab_iflt (tgt := 42) hX dX9_hasPlaces_1 (by decide) (fun h_1 => ?_) (fun h_1 => ?_)
  ·
    refine ab_iconst (v := 0) hX dX9_hasPlaces_42 (by decide) ?_
    exact ab_ireturn hX hF dX9_hasPlaces_43 rfl (by first | rfl | exact bi_n _) (congrArg some (congrArg Value.int (by simp only [hpB, h_1, decide_true, decide_false, Bool.true_and, Bool.false_and, Bool.and_true, Bool.and_false, Bool.not_true, Bool.not_false, bi_t, bi_f]; try rfl))) (by rfl)
  ·
    refine ab_iload_n hX dX9_hasPlaces_4 mm2 ?_
    refine ab_iflt (tgt := 42) hX dX9_hasPlaces_5 (by decide) (fun h_2 => ?_) (fun h_2 => ?_)
    ·
      refine ab_iconst (v := 0) hX dX9_hasPlaces_42 (by decide) ?_
      exact ab_ireturn hX hF dX9_hasPlaces_43 rfl (by first | rfl | exact bi_n _) (congrArg some (congrArg Value.int (by simp only [hpB, h_1, h_2, decide_true, decide_false, Bool.true_and, Bool.false_and, Bool.and_true, Bool.and_false, Bool.not_true, Bool.not_false, bi_t, bi_f]; try rfl))) (by rfl)
    ·
      refine ab_iload_n hX dX9_hasPlaces_8 mm2 ?_
      refine ab_aload_n hX dX9_hasPlaces_9 mm0 ?_
      refine ab_getfield hX dX9_hasPlaces_10 (fs_X9_29_10 rfl) (cg_sd hd) rfl ?_
      refine ab_icmpgt (tgt := 42) hX dX9_hasPlaces_13 (by decide) (fun h_3 => ?_) (fun h_3 => ?_)
      ·
        refine ab_iconst (v := 0) hX dX9_hasPlaces_42 (by decide) ?_
        exact ab_ireturn hX hF dX9_hasPlaces_43 rfl (by first | rfl | exact bi_n _) (congrArg some (congrArg Value.int (by simp only [hpB, h_1, h_2, h_3, decide_true, decide_false, Bool.true_and, Bool.false_and, Bool.and_true, Bool.and_false, Bool.not_true, Bool.not_false, bi_t, bi_f]; try rfl))) (by rfl)
      ·
        refine ab_iload_n hX dX9_hasPlaces_16 mm1 ?_
        refine ab_aload_n hX dX9_hasPlaces_17 mm0 ?_
        refine ab_getfield hX dX9_hasPlaces_18 (fs_X9_29_10 rfl) (cg_sd hd) rfl ?_
        refine ab_iload_n hX dX9_hasPlaces_21 mm2 ?_
        refine ab_isub hX dX9_hasPlaces_22 ?_
        refine ab_icmpgt (tgt := 42) hX dX9_hasPlaces_23 (by decide) (fun h_4 => ?_) (fun h_4 => ?_)
        ·
          refine ab_iconst (v := 0) hX dX9_hasPlaces_42 (by decide) ?_
          exact ab_ireturn hX hF dX9_hasPlaces_43 rfl (by first | rfl | exact bi_n _) (congrArg some (congrArg Value.int (by simp only [hpB, h_1, h_2, h_3, h_4, decide_true, decide_false, Bool.true_and, Bool.false_and, Bool.and_true, Bool.and_false, Bool.not_true, Bool.not_false, bi_t, bi_f]; try rfl))) (by rfl)
        ·
          refine ab_aload_n hX dX9_hasPlaces_26 mm0 ?_
          refine ab_getfield hX dX9_hasPlaces_27 (fs_X9_29_10 rfl) (cg_sd hd) rfl ?_
          refine ab_aload_n hX dX9_hasPlaces_30 mm0 ?_
          refine ab_getfield hX dX9_hasPlaces_31 (fs_X9_9_10 rfl) (cg_sd hd) rfl ?_
          refine ab_alen (v := 100) hX dX9_hasPlaces_34 (cg_nu hd) (by decide) rfl ?_
          refine ab_icmpgt (tgt := 42) hX dX9_hasPlaces_35 (by decide) (fun h_5 => ?_) (fun h_5 => ?_)
          ·
            refine ab_iconst (v := 0) hX dX9_hasPlaces_42 (by decide) ?_
            exact ab_ireturn hX hF dX9_hasPlaces_43 rfl (by first | rfl | exact bi_n _) (congrArg some (congrArg Value.int (by simp only [hpB, h_1, h_2, h_3, h_4, h_5, decide_true, decide_false, Bool.true_and, Bool.false_and, Bool.and_true, Bool.and_false, Bool.not_true, Bool.not_false, bi_t, bi_f]; try rfl))) (by rfl)
          ·
            refine ab_iconst (v := 1) hX dX9_hasPlaces_38 (by decide) ?_
            refine ab_goto (tgt := 43) hX dX9_hasPlaces_39 (by decide) ?_
            exact ab_ireturn hX hF dX9_hasPlaces_43 rfl (by first | rfl | exact bi_n _) (congrArg some (congrArg Value.int (by simp only [hpB, h_1, h_2, h_3, h_4, h_5, decide_true, decide_false, Bool.true_and, Bool.false_and, Bool.and_true, Bool.and_false, Bool.not_true, Bool.not_false, bi_t, bi_f]; try rfl))) (by rfl)
theorem cm_X9_numberAt {G : ab_G} (hG : ab_GG G) {c : CS} {M D : List ab_E} (hM : M.length = 1) {d : Nat} (hd : d < 8) {i : Int32} : ab_CM G mX9_numberAt [.ref (26 + 2 * d), .int i] (cH c M D) (some (.int (nuA c d i))) (cH c M D) := by
  refine ab_meth (l0 := [(0, .ref (26 + 2 * d)), (1, .int i)]) hG (by decide +kernel) rfl (Nat.le_of_ble_eq_true rfl) (Nat.le_refl _) (Nat.le_refl _) (fun X hX hF => ?_)
  refine ab_aload_n hX dX9_numberAt_0 mm0 ?_
  refine ab_iload_n hX dX9_numberAt_1 mm1 ?_
  refine ab_iconst (v := 1) hX dX9_numberAt_2 (by decide) ?_
  refine ab_callV2r hX dX9_numberAt_3 (cg_sd hd) ss_X9_numberAt_46 (cm_X9_hasPlaces hG hM hd) (Nat.le_of_ble_eq_true rfl) ?_
  refine ab_ifeqB (tgt := 18) hX dX9_numberAt_6 (by decide) (fun h_1 => ?_) (fun h_1 => ?_)
  ·
    refine ab_iconst (v := 0) hX dX9_numberAt_18 (by decide) ?_
    exact ab_ireturn hX hF dX9_numberAt_19 rfl (by rfl) (congrArg some (congrArg Value.int (by simp only [nuA, h_1, ↓reduceIte, Bool.false_eq_true]; try rw [hjt]))) (by rfl)
  ·
    obtain ⟨j, hj, hj2, hjt⟩ := hp_ix h_1
    refine ab_aload_n hX dX9_numberAt_9 mm0 ?_
    refine ab_getfield hX dX9_numberAt_10 (fs_X9_9_10 rfl) (cg_sd hd) rfl ?_
    refine ab_iload_n hX dX9_numberAt_13 mm1 ?_
    refine ab_iald (i := j) hX dX9_numberAt_14 (cg_nu hd) hj hj2 (by decide) ?_
    refine ab_goto (tgt := 19) hX dX9_numberAt_15 (by decide) ?_
    exact ab_ireturn hX hF dX9_numberAt_19 rfl (by rfl) (congrArg some (congrArg Value.int (by simp only [nuA, h_1, ↓reduceIte, Bool.false_eq_true]; try rw [hjt]))) (by rfl)
theorem cm_X9_lowestBits {G : ab_G} (hG : ab_GG G) {c : CS} {M D : List ab_E} (hM : M.length = 1) {d : Nat} (hd : d < 8) {v : Int32} : ab_CM G mX9_lowestBits [.ref (26 + 2 * d), .int v] (cH c M D) (some (.int (loB (c.1 (70 + d)) v))) (cH c M D) := by
  refine ab_meth (l0 := [(0, .ref (26 + 2 * d)), (1, .int v)]) hG (by decide +kernel) rfl (Nat.le_of_ble_eq_true rfl) (Nat.le_refl _) (Nat.le_refl _) (fun X hX hF => ?_)
  refine ab_aload_n hX dX9_lowestBits_0 mm0 ?_
  refine ab_getfield hX dX9_lowestBits_1 (fs_X9_26_10 rfl) (cg_sd hd) rfl ?_
  refine ab_ifne (tgt := 10) hX dX9_lowestBits_4 (by decide) (fun h_1 => ?_) (fun h_1 => ?_)
  ·
    refine ab_aload_n hX dX9_lowestBits_10 mm0 ?_
    refine ab_getfield hX dX9_lowestBits_11 (fs_X9_26_10 rfl) (cg_sd hd) rfl ?_
    refine ab_iconst (v := 1) hX dX9_lowestBits_14 (by decide) ?_
    refine ab_icmpne (tgt := 23) hX dX9_lowestBits_15 (by decide) (fun h_2 => ?_) (fun h_2 => ?_)
    ·
      refine ab_iload_n hX dX9_lowestBits_23 mm1 ?_
      exact ab_ireturn hX hF dX9_lowestBits_24 rfl (by rfl) (congrArg some (congrArg Value.int (by first | rfl | (simp only [loB, h_1, h_2, ↓reduceIte, Bool.false_eq_true]; done) | (simp only [loB, h_1, h_2, ↓reduceIte, Bool.false_eq_true]; rfl) | (unfold loB; (repeat' split) <;> first | rfl | contradiction | (simp_all; done))))) (by rfl)
    ·
      refine ab_iload_n hX dX9_lowestBits_18 mm1 ?_
      refine ab_i2s hX dX9_lowestBits_19 ?_
      refine ab_goto (tgt := 24) hX dX9_lowestBits_20 (by decide) ?_
      exact ab_ireturn hX hF dX9_lowestBits_24 rfl (by rfl) (congrArg some (congrArg Value.int (by first | rfl | (simp only [loB, h_1, h_2, ↓reduceIte, Bool.false_eq_true]; done) | (simp only [loB, h_1, h_2, ↓reduceIte, Bool.false_eq_true]; rfl) | (unfold loB; (repeat' split) <;> first | rfl | contradiction | (simp_all; done))))) (by rfl)
  ·
    refine ab_iload_n hX dX9_lowestBits_7 mm1 ?_
    refine ab_i2b hX dX9_lowestBits_8 ?_
    exact ab_ireturn hX hF dX9_lowestBits_9 rfl (by rfl) (congrArg some (congrArg Value.int (by first | rfl | (simp only [loB, h_1, ↓reduceIte, Bool.false_eq_true]; done) | (simp only [loB, h_1, ↓reduceIte, Bool.false_eq_true]; rfl) | (unfold loB; (repeat' split) <;> first | rfl | contradiction | (simp_all; done))))) (by rfl)
