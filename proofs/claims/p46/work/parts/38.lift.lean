/-! a contract over a heap that begins later: what lies before stays -/
def sh (n : Nat) : Value → Value
  | .ref k => .ref (n + k)
  | v => v
def shA (n : Nat) (a : vp_A) : vp_A := match a with
  | (m, .inr (.inr (.inr (.inr f)))) => (m, .inr (.inr (.inr (.inr (fun j => (f j).map (n + ·))))))
  | x => x
def shE (n : Nat) : ab_E → ab_E
  | .inl (t, a) => .inl (t, shA n a)
  | .inr (c, fs) => .inr (c, fs.map (sh n))
/-- the ground, begun later, at a state -/
def rbG (G : ab_G) (n : Nat) (s : State) : ab_G := (G.1, G.2.1 + n, G.2.2.1, G.2.2.2.1, { s with heap := s.heap.extract 0 (G.2.1 + n) }, G.2.2.2.2.2)
/-- the ground with the script -/
def ab_GS (L : Nat) (xs : Nat → Int32) (G : ab_G) : Prop := ab_GG G ∧ va_X (G.2.2.1 1) L xs G.2.2.2.2.1 G.2.2.2.2.1.heap ∧ G.2.2.1 1 < G.2.1
theorem sh_ren {G : ab_G} {n : Nat} {s : State} (v : Value) : ab_ren (rbG G n s) v = ab_ren G (sh n v) := by
  cases v with
  | ref k => exact congrArg Value.ref (Nat.add_assoc _ _ _)
  | _ => rfl
theorem sh_renA {G : ab_G} {n : Nat} {s : State} (a : vp_A) : ab_renA (rbG G n s) a = ab_renA G (shA n a) := by
  obtain ⟨m, f⟩ := a
  rcases f with f | f | f | f | f
  · rfl
  · rfl
  · rfl
  · rfl
  · show ((m, Sum.inr (Sum.inr (Sum.inr (Sum.inr (fun j => (f j).map (G.2.1 + n + ·))))) ) : vp_A) = (m, Sum.inr (Sum.inr (Sum.inr (Sum.inr (fun j => ((f j).map (n + ·)).map (G.2.1 + ·))))))
    congr 5
    funext j
    cases f j with
    | none => rfl
    | some k => exact congrArg some (Nat.add_assoc _ _ _)
theorem sh_renE {G : ab_G} {n : Nat} {s : State} (c : ab_E) : ab_renE (rbG G n s) c = ab_renE G (shE n c) := by
  rcases c with ⟨t, a⟩ | ⟨c, fs⟩
  · show (Sum.inl (G.2.2.2.1 t, ab_renA (rbG G n s) a) : va_E) = Sum.inl (G.2.2.2.1 t, ab_renA G (shA n a))
    rw [sh_renA]
  · show (Sum.inr (c, fs.map (ab_ren (rbG G n s))) : va_E) = Sum.inr (c, (fs.map (sh n)).map (ab_ren G))
    rw [List.map_map]
    congr 2
    exact List.map_congr_left (fun v _ => sh_ren v)
theorem sh_sz1 (n : Nat) (c : ab_E) : ab_szE (shE n c) = ab_szE c := by
  rcases c with ⟨t, m, f⟩ | ⟨c, fs⟩
  · rcases f with f | f | f | f | f <;> rfl
  · rfl
theorem sh_sz (n : Nat) (pre h : List ab_E) : ab_sz (pre ++ h.map (shE n)) = ab_sz pre + ab_sz h := by
  unfold ab_sz
  rw [List.map_append, List.sum_append, List.map_map]
  congr 2
  exact List.map_congr_left (fun c _ => sh_sz1 n c)
theorem sh_len (n : Nat) (pre h : List ab_E) : (pre ++ h.map (shE n)).length = pre.length + h.length := by
  rw [List.length_append, List.length_map]
theorem sh_get {pre h : List ab_E} {k : Nat} {c : ab_E} (hk : h[k]? = some c) : (pre ++ h.map (shE pre.length))[pre.length + k]? = some (shE pre.length c) := by
  rw [List.getElem?_append_right (Nat.le_add_right _ _), Nat.add_sub_cancel_left, List.getElem?_map, hk]
  rfl
theorem rb_ext {H : Heap} {b a : Nat} (hb : b ≤ H.size) (ha : a < b) : (H.extract 0 b)[a]? = H[a]? := by
  rw [Array.getElem?_extract]
  simp
  omega
theorem rb_GG {G : ab_G} (hG : ab_GG G) {n : Nat} {s : State} (hW : G.2.2.2.2.1.WarmedH s.vm) (hs : G.2.1 + n ≤ s.heap.size) (hk : ∀ q : Nat, q < G.2.1 → s.heap[q]? = G.2.2.2.2.1.heap[q]?) : ab_GG (rbG G n s) := by
  obtain ⟨h1, h2, ⟨⟨cf, kf, fi, f, a, cell, e1, e2, e3, e4, e5, e6, e7, e8⟩, h3b⟩, ⟨c0, g1, g2, g3⟩, ⟨⟨cf', kf', fi', f', a', cell', e1', e2', e3', e4', e5', e6', e7', e8'⟩, h5b⟩, ⟨ct, t1, t2, t3, t4, t5, t6, t7⟩, h7⟩ := hG
  have hal := hW.alike
  have hx : ∀ q : Nat, q < G.2.1 → (s.heap.extract 0 (G.2.1 + n))[q]? = G.2.2.2.2.1.heap[q]? := fun q hq => (rb_ext hs (Nat.lt_of_lt_of_le hq (Nat.le_add_right _ _))).trans (hk q hq)
  have hxs : ∀ q : Nat, ¬ ab_A G q → (s.heap.extract 0 (G.2.1 + n))[q]? = G.2.2.2.2.1.heap[q]? := fun q hq => hx q (Nat.not_le.mp hq)
  have hA : ∀ q : Nat, ¬ ab_A G q → ¬ ab_A (rbG G n s) q := fun q hq hn => hq (Nat.le_trans (Nat.le_add_right _ _) hn)
  refine ⟨va_K.moved hal h1, ?_, ⟨va_Z.moved hal ⟨cf, kf, fi, f, a, cell, e1, e2, e3, e4, ?_, e6, e7, hA _ e8⟩, Nat.lt_of_lt_of_le h3b (Nat.le_add_right _ _)⟩, ⟨c0, ?_, State.isArrayOf_alike hal g2, g3⟩, ⟨va_Z.moved hal ⟨cf', kf', fi', f', a', cell', e1', e2', e3', e4', ?_, e6', e7', hA _ e8'⟩, Nat.lt_of_lt_of_le h5b (Nat.le_add_right _ _)⟩, ⟨ct, ?_, State.isArrayOf_alike hal t2, t3, t4, t5, t6, hA _ t7⟩, ?_⟩
  · show (s.heap.extract 0 (G.2.1 + n)).size = G.2.1 + n
    rw [Array.size_extract]
    omega
  · exact (hxs _ e8).trans e5
  · exact (hx _ h3b).trans g1
  · exact (hxs _ e8').trans e5'
  · exact (hxs _ t7).trans t1
  · exact fun w hw => ab_nest_warm (List.mem_filter.mp hw).2 hW (h7 w hw)
theorem rb_GS {G : ab_G} {L : Nat} {xs : Nat → Int32} (hG : ab_GS L xs G) {n : Nat} {s : State} (hW : G.2.2.2.2.1.WarmedH s.vm) (hs : G.2.1 + n ≤ s.heap.size) (hk : ∀ q : Nat, q < G.2.1 → s.heap[q]? = G.2.2.2.2.1.heap[q]?) : ab_GS L xs (rbG G n s) := by
  obtain ⟨h1, ⟨scr, a1, a2, a3⟩, h3⟩ := hG
  refine ⟨rb_GG h1 hW hs hk, ⟨scr, ?_, State.isArrayOf_alike hW.alike a2, a3⟩, Nat.lt_of_lt_of_le h3 (Nat.le_add_right _ _)⟩
  exact ((rb_ext hs (Nat.lt_of_lt_of_le h3 (Nat.le_add_right _ _))).trans (hk _ h3)).trans a1
/-- the cells before, and the rest by the later ground -/
theorem rb_RH {G : ab_G} {pre h : List ab_E} {s : State} {H : Heap} (hR : ab_RH G (pre ++ h.map (shE pre.length)) H) (hs : s.heap = H) : ab_RH (rbG G pre.length s) h H := by
  obtain ⟨h1, h2, h3⟩ := hR
  rw [sh_len] at h2
  have hle : G.2.1 + pre.length ≤ s.heap.size := by rw [hs, h2]; omega
  refine ⟨fun k q hq => ?_, ?_, fun q hq => ?_⟩
  · obtain ⟨c, hc, rfl⟩ := ab_wld_inv hq
    have e := h1 (pre.length + k) _ (ab_wld_get (sh_get hc))
    rw [← sh_renE (s := s), ← Nat.add_assoc] at e
    exact e
  · show H.size = G.2.1 + pre.length + h.length
    rw [h2]; omega
  · show H[q]? = (s.heap.extract 0 (G.2.1 + pre.length))[q]?
    rw [rb_ext hle hq, hs]
theorem rb_at {D : va_G} {cl : List vw_C} {q : Nat × va_E} {H H1 : Heap} (h : va_at D cl q H) (e : H1[q.1]? = H[q.1]?) : va_at D cl q H1 := by
  obtain ⟨a, x⟩ := q
  rcases x with x | x
  · show H1[a]? = _
    exact e.trans h
  · obtain ⟨r, h1, cell, h2, h3⟩ := h
    exact ⟨r, h1, cell, e.trans h2, h3⟩
theorem rb_back {G : ab_G} {pre h h1 : List ab_E} {s : State} {H H1 : Heap} (hR : ab_RH G (pre ++ h.map (shE pre.length)) H) (hs : s.heap = H) (hQ : ab_RH (rbG G pre.length s) h1 H1) : ab_RH G (pre ++ h1.map (shE pre.length)) H1 := by
  obtain ⟨a1, a2, a3⟩ := hR
  rw [sh_len] at a2
  obtain ⟨b1, b2, b3⟩ := hQ
  have hle : G.2.1 + pre.length ≤ s.heap.size := by rw [hs, a2]; omega
  have hk : ∀ q : Nat, q < G.2.1 + pre.length → H1[q]? = H[q]? := fun q hq => by
    have e := b3 q hq
    rw [e]
    show (s.heap.extract 0 (G.2.1 + pre.length))[q]? = _
    rw [rb_ext hle hq, hs]
  refine ⟨fun k q hq => ?_, ?_, fun q hq => ?_⟩
  · obtain ⟨c, hc, rfl⟩ := ab_wld_inv hq
    by_cases hl : k < pre.length
    · rw [List.getElem?_append_left hl] at hc
      have e := a1 k _ (ab_wld_get (h := pre ++ h.map (shE pre.length)) (k := k) (c := c) (by rw [List.getElem?_append_left hl]; exact hc))
      exact rb_at e (hk _ (by show G.2.1 + k < _; omega))
    · obtain ⟨j, rfl⟩ : ∃ j, k = pre.length + j := ⟨k - pre.length, by omega⟩
      rw [List.getElem?_append_right (by omega), Nat.add_sub_cancel_left, List.getElem?_map] at hc
      cases hj : h1[j]? with
      | none => rw [hj] at hc; cases hc
      | some d =>
        rw [hj] at hc
        cases hc
        have e := b1 j _ (ab_wld_get hj)
        rw [sh_renE] at e
        rw [← Nat.add_assoc]
        exact e
  · rw [sh_len]
    show H1.size = _
    rw [b2]
    show G.2.1 + pre.length + h1.length = _
    omega
  · rw [hk q (by omega)]
    exact a3 q hq
theorem ab_lift {G : ab_G} {L : Nat} {xs : Nat → Int32} (hG : ab_GS L xs G) {Z : ab_M} {av : List Value} {h h1 : List ab_E} {r : Option Value} (hC : ∀ G', ab_GS L xs G' → ab_CM G' Z av h r h1) (pre : List ab_E) : ab_CM G Z (av.map (sh pre.length)) (pre ++ h.map (shE pre.length)) (r.map (sh pre.length)) (pre ++ h1.map (shE pre.length)) := by
  obtain ⟨l1, l2, -⟩ := hC G hG
  have er : ab_room Z (pre ++ h.map (shE pre.length)) (pre ++ h1.map (shE pre.length)) = ab_room Z h h1 := by
    unfold ab_room
    rw [sh_len, sh_len, sh_sz, sh_sz, show pre.length + h1.length - (pre.length + h.length) = h1.length - h.length by omega, show ab_sz pre + ab_sz h1 - (ab_sz pre + ab_sz h) = ab_sz h1 - ab_sz h by omega]
  have ec : (pre ++ h1.map (shE pre.length)).length - (pre ++ h.map (shE pre.length)).length = h1.length - h.length := by rw [sh_len, sh_len]; omega
  have es : ab_sz (pre ++ h1.map (shE pre.length)) - ab_sz (pre ++ h.map (shE pre.length)) = ab_sz h1 - ab_sz h := by rw [sh_sz, sh_sz]; omega
  refine ⟨by rw [sh_len, sh_len]; omega, by rw [sh_sz, sh_sz]; omega, ?_⟩
  rw [er, ec, es]
  intro p e hA hc hk s m args below hf happ hP hT
  obtain ⟨rfl, hRH, hW⟩ := hP
  have hle : G.2.1 + pre.length ≤ s.heap.size := by have := hRH.2.1; rw [sh_len] at this; omega
  have hG' := rb_GS hG (n := pre.length) hW hle hRH.2.2
  have em : (av.map (sh pre.length)).map (ab_ren G) = av.map (ab_ren (rbG G pre.length s)) := by
    rw [List.map_map]
    exact List.map_congr_left (fun v _ => (sh_ren v).symm)
  rw [em] at hf ⊢
  obtain ⟨n, o, w1, w2, w3, ⟨⟨q1, q2, q3⟩, LL, f1, f2⟩⟩ := (hC _ hG').2.2 p e hA hc hk s m _ below hf happ ⟨rfl, rb_RH hRH rfl, State.WarmedH.refl s⟩ hT
  refine ⟨n, o, w1, w2, w3, ⟨⟨?_, ⟨rb_back hRH rfl q2.1, State.WarmedH.trans hW f1.2.1⟩, q3.1, fun q hq hn => q3.2 q hq (fun hn2 => hn (Nat.le_trans (Nat.le_add_right _ _) hn2))⟩, LL, f1, fun q hq => Nat.le_trans (Nat.le_add_right _ _) (f2 q hq)⟩⟩
  rw [q1]
  cases r with
  | none => rfl
  | some v => exact congrArg (fun z => Outcome.returned (some z)) (sh_ren v)
