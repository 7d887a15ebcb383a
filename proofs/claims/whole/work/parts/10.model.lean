/-! the reference's state: numbers, rows, longs, each by the place of its field -/
abbrev MS : Type := (Nat → Int32) × (Nat → Nat → Int32) × (Nat → Int64)
def mF (s : MS) : List Value := [.int (s.1 0), .int (s.1 1), .ref 43, .int (s.1 3), .ref 44, .int (s.1 5), .ref 45, .ref 46, .ref 47, .ref 48, .ref 49, .ref 50, .int (s.1 12), .int (s.1 13), .ref 51, .int (s.1 15), .ref 52, .ref 53, .long (s.2.2 18), .long (s.2.2 19), .int (s.1 20), .int (s.1 21)]
def mC (s : MS) : List ab_E := [.inr (13, mF s), .inl (0, 6, .inl (s.2.1 2)), .inl (0, 5, .inl (s.2.1 4)), .inl (0, 10, .inl (s.2.1 6)), .inl (0, 10, .inl (s.2.1 7)), .inl (0, 8, .inl (s.2.1 8)), .inl (0, 8, .inl (s.2.1 9)), .inl (0, 8, .inl (s.2.1 10)), .inl (0, 800, .inl (s.2.1 11)), .inl (0, 5, .inl (s.2.1 14)), .inl (0, 35, .inl (s.2.1 16)), .inl (0, 35, .inl (s.2.1 17))]
def mH (A : List ab_E) (s : MS) (B : List ab_E) : List ab_E := A ++ (mC s ++ B)
def mu1 (s : MS) (k : Nat) (x : Int32) : MS := (upd s.1 k x, s.2)
def mu2 (s : MS) (k j : Nat) (x : Int32) : MS := (s.1, fun i => if i = k then upd (s.2.1 k) j x else s.2.1 i, s.2.2)
def mu3 (s : MS) (k : Nat) (x : Int64) : MS := (s.1, s.2.1, vp_updL s.2.2 k x)
theorem mH_get {A : List ab_E} {s : MS} {B : List ab_E} (hA : A.length = 42) {k : Nat} {c : ab_E} (h : (mC s)[k]? = some c) : (mH A s B)[42 + k]? = some c := by
  unfold mH
  rw [List.getElem?_append_right (by omega), hA, Nat.add_sub_cancel_left, List.getElem?_append_left (List.getElem?_eq_some_iff.mp h).1]
  exact h
theorem mH_set {A : List ab_E} {s t : MS} {B : List ab_E} (hA : A.length = 42) {k : Nat} {c : ab_E} (hk : k < 12) (h : (mC s).set k c = mC t) : (mH A s B).set (42 + k) c = mH A t B := by
  unfold mH
  rw [List.set_append_right _ _ (by omega), hA, Nat.add_sub_cancel_left, List.set_append_left _ _ (by show k < (mC s).length; exact hk), h]
theorem mH_len {A : List ab_E} {s : MS} {B : List ab_E} : (mH A s B).length = A.length + (12 + B.length) := by
  unfold mH
  rw [List.length_append, List.length_append]
  rfl
theorem mH_lenE {A : List ab_E} {s t : MS} {B : List ab_E} : (mH A s B).length ≤ (mH A t B).length := by rw [mH_len, mH_len]; exact Nat.le_refl _
theorem mH_szE {A : List ab_E} {s t : MS} {B : List ab_E} : ab_sz (mH A s B) ≤ ab_sz (mH A t B) := by
  unfold mH ab_sz
  rw [List.map_append, List.map_append, List.map_append, List.map_append]
  exact Nat.le_refl _
theorem mg_o {A : List ab_E} {s : MS} {B : List ab_E} (hA : A.length = 42) : (mH A s B)[42]? = some (.inr (13, mF s)) := mH_get (k := 0) hA rfl
theorem mg_2 {A : List ab_E} {s : MS} {B : List ab_E} (hA : A.length = 42) : (mH A s B)[43]? = some (.inl (0, 6, .inl (s.2.1 2))) := mH_get (k := 1) hA rfl
theorem mx_2 {A : List ab_E} {s : MS} {B : List ab_E} (hA : A.length = 42) {j : Nat} {x : Int32} : (mH A s B).set 43 (.inl (0, 6, .inl (upd (s.2.1 2) j x))) = mH A (mu2 s 2 j x) B := mH_set (k := 1) hA (by decide) rfl
theorem mg_4 {A : List ab_E} {s : MS} {B : List ab_E} (hA : A.length = 42) : (mH A s B)[44]? = some (.inl (0, 5, .inl (s.2.1 4))) := mH_get (k := 2) hA rfl
theorem mx_4 {A : List ab_E} {s : MS} {B : List ab_E} (hA : A.length = 42) {j : Nat} {x : Int32} : (mH A s B).set 44 (.inl (0, 5, .inl (upd (s.2.1 4) j x))) = mH A (mu2 s 4 j x) B := mH_set (k := 2) hA (by decide) rfl
theorem mg_6 {A : List ab_E} {s : MS} {B : List ab_E} (hA : A.length = 42) : (mH A s B)[45]? = some (.inl (0, 10, .inl (s.2.1 6))) := mH_get (k := 3) hA rfl
theorem mx_6 {A : List ab_E} {s : MS} {B : List ab_E} (hA : A.length = 42) {j : Nat} {x : Int32} : (mH A s B).set 45 (.inl (0, 10, .inl (upd (s.2.1 6) j x))) = mH A (mu2 s 6 j x) B := mH_set (k := 3) hA (by decide) rfl
theorem mg_7 {A : List ab_E} {s : MS} {B : List ab_E} (hA : A.length = 42) : (mH A s B)[46]? = some (.inl (0, 10, .inl (s.2.1 7))) := mH_get (k := 4) hA rfl
theorem mx_7 {A : List ab_E} {s : MS} {B : List ab_E} (hA : A.length = 42) {j : Nat} {x : Int32} : (mH A s B).set 46 (.inl (0, 10, .inl (upd (s.2.1 7) j x))) = mH A (mu2 s 7 j x) B := mH_set (k := 4) hA (by decide) rfl
theorem mg_8 {A : List ab_E} {s : MS} {B : List ab_E} (hA : A.length = 42) : (mH A s B)[47]? = some (.inl (0, 8, .inl (s.2.1 8))) := mH_get (k := 5) hA rfl
theorem mx_8 {A : List ab_E} {s : MS} {B : List ab_E} (hA : A.length = 42) {j : Nat} {x : Int32} : (mH A s B).set 47 (.inl (0, 8, .inl (upd (s.2.1 8) j x))) = mH A (mu2 s 8 j x) B := mH_set (k := 5) hA (by decide) rfl
theorem mg_9 {A : List ab_E} {s : MS} {B : List ab_E} (hA : A.length = 42) : (mH A s B)[48]? = some (.inl (0, 8, .inl (s.2.1 9))) := mH_get (k := 6) hA rfl
theorem mx_9 {A : List ab_E} {s : MS} {B : List ab_E} (hA : A.length = 42) {j : Nat} {x : Int32} : (mH A s B).set 48 (.inl (0, 8, .inl (upd (s.2.1 9) j x))) = mH A (mu2 s 9 j x) B := mH_set (k := 6) hA (by decide) rfl
theorem mg_10 {A : List ab_E} {s : MS} {B : List ab_E} (hA : A.length = 42) : (mH A s B)[49]? = some (.inl (0, 8, .inl (s.2.1 10))) := mH_get (k := 7) hA rfl
theorem mx_10 {A : List ab_E} {s : MS} {B : List ab_E} (hA : A.length = 42) {j : Nat} {x : Int32} : (mH A s B).set 49 (.inl (0, 8, .inl (upd (s.2.1 10) j x))) = mH A (mu2 s 10 j x) B := mH_set (k := 7) hA (by decide) rfl
theorem mg_11 {A : List ab_E} {s : MS} {B : List ab_E} (hA : A.length = 42) : (mH A s B)[50]? = some (.inl (0, 800, .inl (s.2.1 11))) := mH_get (k := 8) hA rfl
theorem mx_11 {A : List ab_E} {s : MS} {B : List ab_E} (hA : A.length = 42) {j : Nat} {x : Int32} : (mH A s B).set 50 (.inl (0, 800, .inl (upd (s.2.1 11) j x))) = mH A (mu2 s 11 j x) B := mH_set (k := 8) hA (by decide) rfl
theorem mg_14 {A : List ab_E} {s : MS} {B : List ab_E} (hA : A.length = 42) : (mH A s B)[51]? = some (.inl (0, 5, .inl (s.2.1 14))) := mH_get (k := 9) hA rfl
theorem mx_14 {A : List ab_E} {s : MS} {B : List ab_E} (hA : A.length = 42) {j : Nat} {x : Int32} : (mH A s B).set 51 (.inl (0, 5, .inl (upd (s.2.1 14) j x))) = mH A (mu2 s 14 j x) B := mH_set (k := 9) hA (by decide) rfl
theorem mg_16 {A : List ab_E} {s : MS} {B : List ab_E} (hA : A.length = 42) : (mH A s B)[52]? = some (.inl (0, 35, .inl (s.2.1 16))) := mH_get (k := 10) hA rfl
theorem mx_16 {A : List ab_E} {s : MS} {B : List ab_E} (hA : A.length = 42) {j : Nat} {x : Int32} : (mH A s B).set 52 (.inl (0, 35, .inl (upd (s.2.1 16) j x))) = mH A (mu2 s 16 j x) B := mH_set (k := 10) hA (by decide) rfl
theorem mg_17 {A : List ab_E} {s : MS} {B : List ab_E} (hA : A.length = 42) : (mH A s B)[53]? = some (.inl (0, 35, .inl (s.2.1 17))) := mH_get (k := 11) hA rfl
theorem mx_17 {A : List ab_E} {s : MS} {B : List ab_E} (hA : A.length = 42) {j : Nat} {x : Int32} : (mH A s B).set 53 (.inl (0, 35, .inl (upd (s.2.1 17) j x))) = mH A (mu2 s 17 j x) B := mH_set (k := 11) hA (by decide) rfl
theorem mx_0 {A : List ab_E} {s : MS} {B : List ab_E} (hA : A.length = 42) {x : Int32} : (mH A s B).set 42 (.inr (13, (mF s).set 0 (.int x))) = mH A (mu1 s 0 x) B := mH_set (k := 0) hA (by decide) rfl
theorem mx_1 {A : List ab_E} {s : MS} {B : List ab_E} (hA : A.length = 42) {x : Int32} : (mH A s B).set 42 (.inr (13, (mF s).set 1 (.int x))) = mH A (mu1 s 1 x) B := mH_set (k := 0) hA (by decide) rfl
theorem mx_3 {A : List ab_E} {s : MS} {B : List ab_E} (hA : A.length = 42) {x : Int32} : (mH A s B).set 42 (.inr (13, (mF s).set 3 (.int x))) = mH A (mu1 s 3 x) B := mH_set (k := 0) hA (by decide) rfl
theorem mx_5 {A : List ab_E} {s : MS} {B : List ab_E} (hA : A.length = 42) {x : Int32} : (mH A s B).set 42 (.inr (13, (mF s).set 5 (.int x))) = mH A (mu1 s 5 x) B := mH_set (k := 0) hA (by decide) rfl
theorem mx_12 {A : List ab_E} {s : MS} {B : List ab_E} (hA : A.length = 42) {x : Int32} : (mH A s B).set 42 (.inr (13, (mF s).set 12 (.int x))) = mH A (mu1 s 12 x) B := mH_set (k := 0) hA (by decide) rfl
theorem mx_13 {A : List ab_E} {s : MS} {B : List ab_E} (hA : A.length = 42) {x : Int32} : (mH A s B).set 42 (.inr (13, (mF s).set 13 (.int x))) = mH A (mu1 s 13 x) B := mH_set (k := 0) hA (by decide) rfl
theorem mx_15 {A : List ab_E} {s : MS} {B : List ab_E} (hA : A.length = 42) {x : Int32} : (mH A s B).set 42 (.inr (13, (mF s).set 15 (.int x))) = mH A (mu1 s 15 x) B := mH_set (k := 0) hA (by decide) rfl
theorem mx_20 {A : List ab_E} {s : MS} {B : List ab_E} (hA : A.length = 42) {x : Int32} : (mH A s B).set 42 (.inr (13, (mF s).set 20 (.int x))) = mH A (mu1 s 20 x) B := mH_set (k := 0) hA (by decide) rfl
theorem mx_21 {A : List ab_E} {s : MS} {B : List ab_E} (hA : A.length = 42) {x : Int32} : (mH A s B).set 42 (.inr (13, (mF s).set 21 (.int x))) = mH A (mu1 s 21 x) B := mH_set (k := 0) hA (by decide) rfl
theorem mx_18 {A : List ab_E} {s : MS} {B : List ab_E} (hA : A.length = 42) {x : Int64} : (mH A s B).set 42 (.inr (13, (mF s).set 18 (.long x))) = mH A (mu3 s 18 x) B := mH_set (k := 0) hA (by decide) rfl
theorem mx_19 {A : List ab_E} {s : MS} {B : List ab_E} (hA : A.length = 42) {x : Int64} : (mH A s B).set 42 (.inr (13, (mF s).set 19 (.long x))) = mH A (mu3 s 19 x) B := mH_set (k := 0) hA (by decide) rfl
