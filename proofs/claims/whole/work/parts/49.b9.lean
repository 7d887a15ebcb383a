/-! what is kept aside and taken back -/
theorem mu2_v {s : MS} {k i : Nat} {x : Int32} (j : Nat) : (mu2 s k i x).2.1 k j = if j = i then x else s.2.1 k j := by
  show (if k = k then upd (s.2.1 k) i x else s.2.1 k) j = _
  rw [if_pos rfl]; rfl
theorem kp4_v {k : Nat} (X : MS) (j : Nat) : (kp4 k X).2.1 k j = if j = 34 then X.1 0 else if j = 33 then X.1 5 else if j = 32 then X.1 3 else if j = 31 then X.1 1 else X.2.1 k j := by
  show (mu2 (mu2 (mu2 (mu2 X k 31 (X.1 1)) k 32 (X.1 3)) k 33 (X.1 5)) k 34 (X.1 0)).2.1 k j = _
  rw [mu2_v, mu2_v, mu2_v, mu2_v]
theorem kp_v {k : Nat} (hk : 15 < k) (s : MS) : (∀ i, i < 6 → (kpS k s).2.1 k i = s.2.1 2 i) ∧ (∀ i, i < 5 → (kpS k s).2.1 k (6 + i) = s.2.1 4 i) ∧ (∀ i, i < 10 → (kpS k s).2.1 k (11 + i) = s.2.1 6 i ∧ (kpS k s).2.1 k (21 + i) = s.2.1 7 i) ∧
    (kpS k s).2.1 k 31 = s.1 1 ∧ (kpS k s).2.1 k 32 = s.1 3 ∧ (kpS k s).2.1 k 33 = s.1 5 ∧ (kpS k s).2.1 k 34 = s.1 0 := by
  have A1 := accI (fun n r => r.1 = s.1 ∧ (∀ j, j ≠ k → r.2.1 j = s.2.1 j) ∧ ∀ i, i < n → r.2.1 k i = s.2.1 2 i) (f := kp1 k) (z := s) (n := 6) ⟨rfl, fun _ _ => rfl, fun i hi => absurd hi (by omega)⟩ (fun n hn r h => by
    obtain ⟨a, b, d⟩ := h
    refine ⟨a, fun j hj => (mu2_n hj).trans (b j hj), fun i hi => ?_⟩
    show (mu2 r k n (r.2.1 2 n)).2.1 k i = _
    rw [mu2_v, b 2 (by omega)]
    split
    · rename_i e; rw [e]
    · exact d i (by omega))
  have A2 := accI (fun n r => r.1 = s.1 ∧ (∀ j, j ≠ k → r.2.1 j = s.2.1 j) ∧ (∀ i, i < 6 → r.2.1 k i = s.2.1 2 i) ∧ ∀ i, i < n → r.2.1 k (6 + i) = s.2.1 4 i) (f := kp2 k) (z := acc (kp1 k) s 6) (n := 5) ⟨A1.1, A1.2.1, A1.2.2, fun i hi => absurd hi (by omega)⟩ (fun n hn r h => by
    obtain ⟨a, b, d, e⟩ := h
    refine ⟨a, fun j hj => (mu2_n hj).trans (b j hj), fun i hi => ?_, fun i hi => ?_⟩
    · show (mu2 r k (6 + n) (r.2.1 4 n)).2.1 k i = _
      rw [mu2_v, if_neg (by omega)]; exact d i hi
    · show (mu2 r k (6 + n) (r.2.1 4 n)).2.1 k (6 + i) = _
      rw [mu2_v, b 4 (by omega)]
      split
      · rename_i e2; rw [show i = n from by omega]
      · exact e i (by omega))
  have A3 := accI (fun n r => r.1 = s.1 ∧ (∀ j, j ≠ k → r.2.1 j = s.2.1 j) ∧ (∀ i, i < 6 → r.2.1 k i = s.2.1 2 i) ∧ (∀ i, i < 5 → r.2.1 k (6 + i) = s.2.1 4 i) ∧ ∀ i, i < n → r.2.1 k (11 + i) = s.2.1 6 i ∧ r.2.1 k (21 + i) = s.2.1 7 i) (f := kp3 k) (z := acc (kp2 k) (acc (kp1 k) s 6) 5) (n := 10) ⟨A2.1, A2.2.1, A2.2.2.1, A2.2.2.2, fun i hi => absurd hi (by omega)⟩ (fun n hn r h => by
    obtain ⟨a, b, d, e, f⟩ := h
    have V : ∀ j, (kp3 k n r).2.1 k j = if j = 21 + n then r.2.1 7 n else if j = 11 + n then r.2.1 6 n else r.2.1 k j := fun j => by
      show (mu2 (mu2 r k (11 + n) (r.2.1 6 n)) k (21 + n) (r.2.1 7 n)).2.1 k j = _
      rw [mu2_v, mu2_v]
    refine ⟨a, fun j hj => ((mu2_n hj).trans (mu2_n hj)).trans (b j hj), fun i hi => ?_, fun i hi => ?_, fun i hi => ?_⟩
    · rw [V, if_neg (by omega), if_neg (by omega)]; exact d i hi
    · rw [V, if_neg (by omega), if_neg (by omega)]; exact e i hi
    · rw [V, V, b 6 (by omega), b 7 (by omega), if_neg (by omega)]
      by_cases q : i = n
      · subst q; exact ⟨if_pos rfl, if_pos rfl⟩
      · rw [if_neg (by omega), if_neg (by omega), if_neg (by omega)]; exact f i (by omega))
  unfold kpS
  generalize acc (kp3 k) (acc (kp2 k) (acc (kp1 k) s 6) 5) 10 = X at A3 ⊢
  obtain ⟨a, b, d, e, f⟩ := A3
  refine ⟨fun i hi => ?_, fun i hi => ?_, fun i hi => ⟨?_, ?_⟩, ?_, ?_, ?_, ?_⟩
  · rw [kp4_v, if_neg (by omega), if_neg (by omega), if_neg (by omega), if_neg (by omega)]; exact d i hi
  · rw [kp4_v, if_neg (by omega), if_neg (by omega), if_neg (by omega), if_neg (by omega)]; exact e i hi
  · rw [kp4_v, if_neg (by omega), if_neg (by omega), if_neg (by omega), if_neg (by omega)]; exact (f i hi).1
  · rw [kp4_v, if_neg (by omega), if_neg (by omega), if_neg (by omega), if_neg (by omega)]; exact (f i hi).2
  · rw [kp4_v, a]; rfl
  · rw [kp4_v, a]; rfl
  · rw [kp4_v, a]; rfl
  · rw [kp4_v, a]; rfl
theorem ag_v {k : Nat} (hk : 15 < k) (s : MS) : (∀ j, j ≠ 2 → j ≠ 4 → j ≠ 6 → j ≠ 7 → (agS k s).2.1 j = s.2.1 j) ∧ (∀ i, i < 6 → (agS k s).2.1 2 i = s.2.1 k i) ∧ (∀ i, i < 5 → (agS k s).2.1 4 i = s.2.1 k (6 + i)) ∧ (∀ i, i < 10 → (agS k s).2.1 6 i = s.2.1 k (11 + i) ∧ (agS k s).2.1 7 i = s.2.1 k (21 + i)) ∧
    (agS k s).1 1 = s.2.1 k 31 ∧ (agS k s).1 3 = s.2.1 k 32 ∧ (agS k s).1 5 = s.2.1 k 33 ∧ (agS k s).1 0 = s.2.1 k 34 ∧ ∀ j, j ≠ 0 → j ≠ 1 → j ≠ 3 → j ≠ 5 → (agS k s).1 j = s.1 j := by
  have A1 := accI (fun n r => r.1 = s.1 ∧ (∀ j, j ≠ 2 → r.2.1 j = s.2.1 j) ∧ ∀ i, i < n → r.2.1 2 i = s.2.1 k i) (f := ag1 k) (z := s) (n := 6) ⟨rfl, fun _ _ => rfl, fun i hi => absurd hi (by omega)⟩ (fun n hn r h => by
    obtain ⟨a, b, d⟩ := h
    refine ⟨a, fun j hj => (mu2_n hj).trans (b j hj), fun i hi => ?_⟩
    show (mu2 r 2 n (r.2.1 k n)).2.1 2 i = _
    rw [mu2_v, b k (by omega)]
    split
    · rename_i e; rw [e]
    · exact d i (by omega))
  have A2 := accI (fun n r => r.1 = s.1 ∧ (∀ j, j ≠ 2 → j ≠ 4 → r.2.1 j = s.2.1 j) ∧ (∀ i, i < 6 → r.2.1 2 i = s.2.1 k i) ∧ ∀ i, i < n → r.2.1 4 i = s.2.1 k (6 + i)) (f := ag2 k) (z := acc (ag1 k) s 6) (n := 5) ⟨A1.1, fun j h _ => A1.2.1 j h, A1.2.2, fun i hi => absurd hi (by omega)⟩ (fun n hn r h => by
    obtain ⟨a, b, d, e⟩ := h
    refine ⟨a, fun j hj hj2 => (mu2_n hj2).trans (b j hj hj2), fun i hi => ?_, fun i hi => ?_⟩
    · show (mu2 r 4 n (r.2.1 k (6 + n))).2.1 2 i = _
      rw [mu2_n (by decide)]; exact d i hi
    · show (mu2 r 4 n (r.2.1 k (6 + n))).2.1 4 i = _
      rw [mu2_v, b k (by omega) (by omega)]
      split
      · rename_i e2; rw [e2]
      · exact e i (by omega))
  have A3 := accI (fun n r => r.1 = s.1 ∧ (∀ j, j ≠ 2 → j ≠ 4 → j ≠ 6 → j ≠ 7 → r.2.1 j = s.2.1 j) ∧ (∀ i, i < 6 → r.2.1 2 i = s.2.1 k i) ∧ (∀ i, i < 5 → r.2.1 4 i = s.2.1 k (6 + i)) ∧ ∀ i, i < n → r.2.1 6 i = s.2.1 k (11 + i) ∧ r.2.1 7 i = s.2.1 k (21 + i)) (f := ag3 k) (z := acc (ag2 k) (acc (ag1 k) s 6) 5) (n := 10) ⟨A2.1, fun j h h2 _ _ => A2.2.1 j h h2, A2.2.2.1, A2.2.2.2, fun i hi => absurd hi (by omega)⟩ (fun n hn r h => by
    obtain ⟨a, b, d, e, f⟩ := h
    have E : ag3 k n r = mu2 (mu2 r 6 n (r.2.1 k (11 + n))) 7 n (r.2.1 k (21 + n)) := rfl
    rw [E]
    refine ⟨a, fun j hj hj2 hj3 hj4 => ((mu2_n hj4).trans (mu2_n hj3)).trans (b j hj hj2 hj3 hj4), fun i hi => ?_, fun i hi => ?_, fun i hi => ⟨?_, ?_⟩⟩
    · rw [mu2_n (by decide), mu2_n (by decide)]; exact d i hi
    · rw [mu2_n (by decide), mu2_n (by decide)]; exact e i hi
    · rw [mu2_n (by decide), mu2_v, b k (by omega) (by omega) (by omega) (by omega)]
      split
      · rename_i e2; rw [e2]
      · exact (f i (by omega)).1
    · rw [mu2_v, mu2_n (by decide), b k (by omega) (by omega) (by omega) (by omega)]
      split
      · rename_i e2; rw [e2]
      · exact (f i (by omega)).2)
  unfold agS
  generalize acc (ag3 k) (acc (ag2 k) (acc (ag1 k) s 6) 5) 10 = X at A3 ⊢
  obtain ⟨a, b, d, e, f⟩ := A3
  have E : ag4 k X = mu1 (mu1 (mu1 (mu1 X 1 (X.2.1 k 31)) 3 (X.2.1 k 32)) 5 (X.2.1 k 33)) 0 (X.2.1 k 34) := rfl
  have bk := b k (by omega) (by omega) (by omega) (by omega)
  refine ⟨b, d, e, f, ?_, ?_, ?_, ?_, fun j h0 h1 h3 h5 => ?_⟩
  · rw [E, bk]; rfl
  · rw [E, bk]; rfl
  · rw [E, bk]; rfl
  · rw [E, bk]; rfl
  · rw [E, ← a]
    show (if j = 0 then _ else if j = 5 then _ else if j = 3 then _ else if j = 1 then _ else X.1 j) = X.1 j
    rw [if_neg h0, if_neg h5, if_neg h3, if_neg h1]
