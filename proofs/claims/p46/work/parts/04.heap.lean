/-! Rules for the heap: fields, arrays, what is new, statics, casts. -/
/-- a field of class ci at a pool entry: it is the k-th -/
def ab_fs (M : ab_M) (i ci k : Nat) : Prop := ∃ (C : String) (T : u_T) (N : Nat) (ref : String), ab_cls[ci]? = some (C, T, N) ∧ k < N ∧ (∀ w ∈ u_ws C T N, w ∈ ab_Tg) ∧
  (Cond.fieldLink M.1.cls i ref (T k).2.1 (T k).2.2.1 ∈ ab_Tg ∨ ∃ host, Cond.fieldLinkNest M.1.cls i ref (T k).2.1 (T k).2.2.1 host ∈ ab_Tn) ∧ (ref = (T k).1 ∨ Cond.sameField ref (T k).1 (T k).2.1 (T k).2.2.1 ∈ ab_Tg)
/-- and written -/
def ab_ps (M : ab_M) (i ci k : Nat) (ty : FieldType) : Prop := ∃ (C : String) (T : u_T) (N : Nat) (ref : String) (ty0 : Nat → FieldType), ab_cls[ci]? = some (C, T, N) ∧ k < N ∧ (∀ w ∈ u_ws C T N, w ∈ ab_Tg) ∧
  (∀ k, k < N → parseFieldDescriptor (T k).2.2.1 = some (ty0 k)) ∧ (∀ a, a < N → ∀ b, b < N → a ≠ b → (T a).2.1 ≠ (T b).2.1) ∧ ty0 k = ty ∧
  (ref = (T k).1 ∨ Cond.sameField ref (T k).1 (T k).2.1 (T k).2.2.1 ∈ ab_Tg) ∧
  ((Cond.fieldLink M.1.cls i ref (T k).2.1 (T k).2.2.1 ∈ ab_Tg ∧ ((T k).2.2.2 = false ∨ ((T k).2.2.2 = true ∧ M.1.name = "<init>" ∧ (T k).1 = M.1.cls))) ∨ ((∃ host, Cond.fieldLinkNest M.1.cls i ref (T k).2.1 (T k).2.2.1 host ∈ ab_Tn) ∧ (T k).2.2.2 = false))
theorem ab_same {s : State} {args : Array Value} (hts : ∀ w ∈ ab_Tg, w.before args s = true) {ref : String} {q : String × String × String × Bool} (h : ref = q.1 ∨ Cond.sameField ref q.1 q.2.1 q.2.2.1 ∈ ab_Tg) : ∀ x, s.fieldFound? q.1 q.2.1 q.2.2.1 = some x → s.fieldFound? ref q.2.1 q.2.2.1 = some x := by
  rcases h with rfl | h
  · exact fun _ h => h
  · exact u_same (hts _ h)
theorem ab_getfield {G : ab_G} {M : ab_M} {X : ab_X} {pc : Nat} {l : List (Nat × Value)} {st : List Value} {h : List ab_E} (hX : ab_Good G M X) {i ci k a : Nat} {fs : List Value} {v : Value} (hm : decode M.2.1 pc = .ok (.getfield i, 3)) (hs : ab_fs M i ci k) (hc : h[a]? = some (.inr (ci, fs))) (hv : fs[k]? = some v)
    (kk : ab_WA G M X (pc + 3) l (v :: st) h) : ab_WA G M X pc l (.ref a :: st) h := by
  obtain ⟨p, e, R, s, m, args, below, meth, c, Q, h0⟩ := X
  obtain ⟨hx, hb, hml, hr, hlk, hown, hts, hal, hsz, hkp, hnm, hrf, hrl, hG⟩ := hX
  obtain ⟨C, T, N, ref, q1, q2, q3, q4, q5⟩ := hs
  refine ⟨kk.1, kk.2.1, fun ls H locs g1 g2 hl hR hS => ?_⟩
  have w := kk.2.2 ls H locs g1 g2 hl hR hS
  have hK := va_K.moved hal.alike hG.1
  have he : (ab_wld G h)[a]? = some (G.2.1 + a, .inr (ci, fs.map (ab_ren G))) := ab_wld_get hc
  have hv2 : (fs.map (ab_ren G))[k]? = some (ab_ren G v) := by rw [List.getElem?_map, hv]; rfl
  rcases q4 with q4 | ⟨host, q4⟩
  · exact va_get (D := G.1) hx hb hts q3 hown hK hR.1 a he q1 k q2 (hts _ q4) (ab_same hts q5) hv2 hm w
  · exact va_getN (D := G.1) hx hb hts q3 hown hK hR.1 a he q1 k q2 (va_Nw.use rfl (ab_nw hG hal q4)) (ab_same hts q5) hv2 hm w
/-- the heap's size, read off the room -/
theorem ab_size {p : Program} {l : Launch} {e : Env} {R : Room} {s : State} {m : MethodId} {args : Array Value} {below : List Frame} {meth : Method} {c : Code} {H : Heap} {locs : List Loc} {cells slots n0 : Nat} {Q : State → Prop} {g : JFrame} {G : ab_G} {h : List ab_E}
    (hP : va_P G.1 ab_cls (ab_wld G h) H) (hs : s.heap.size = G.2.1 + n0) (hn : h.length = n0 + cells) (hz : s.heap.size ≤ H.size) (k : H.size = G.2.1 + h.length → W p l e R s m args below meth c H locs cells slots Q g) : W p l e R s m args below meth c H locs cells slots Q g := by
  intro T hT X
  have h1 := X.heapSize
  rw [hT] at h1
  have h2 : G.2.1 + h.length ≤ H.size := by
    by_cases h0 : h.length = 0
    · omega
    · have hl : h.length - 1 < h.length := by omega
      have := (hP (h.length - 1) _ (ab_wld_get (List.getElem?_eq_getElem hl))).lt
      have e : ((G.2.1 + (h.length - 1), ab_renE G h[h.length - 1]) : Nat × va_E).1 = G.2.1 + (h.length - 1) := rfl
      rw [e] at this
      omega
  exact k (by omega) T hT X
/-- the place of a new cell, read off the room -/
theorem ab_place {p : Program} {l : Launch} {e : Env} {R : Room} {s : State} {m : MethodId} {args : Array Value} {below : List Frame} {meth : Method} {c : Code} {H : Heap} {locs : List Loc} {cells slots n0 : Nat} {Q : State → Prop} {g : JFrame} {G : ab_G} {h : List ab_E} {q : Nat} {v : va_E}
    (hP : va_P G.1 ab_cls (ab_wld G h ++ [(q, v)]) H) (hD : va_D (ab_A G) (ab_wld G h ++ [(q, v)])) (hs : s.heap.size = G.2.1 + n0) (hn : h.length + 1 = n0 + cells) (k : q = G.2.1 + h.length → H.size = G.2.1 + (h.length + 1) → W p l e R s m args below meth c H locs cells slots Q g) : W p l e R s m args below meth c H locs cells slots Q g := by
  intro T hT X
  have h1 := X.heapSize
  rw [hT] at h1
  have hw : (ab_wld G h).length = h.length := by simp [ab_wld]
  have hlast : (ab_wld G h ++ [(q, v)])[h.length]? = some (q, v) := by rw [List.getElem?_append_right (by omega), hw, Nat.sub_self]; rfl
  have hq1 : q < H.size := (hP _ _ hlast).lt
  have hq2 : G.2.1 ≤ q := hD.2 _ _ hlast
  have hq3 : ¬ q < G.2.1 + h.length := by
    intro hlt
    have hk : q - G.2.1 < h.length := by omega
    have hg : (ab_wld G h ++ [(q, v)])[q - G.2.1]? = some (G.2.1 + (q - G.2.1), ab_renE G h[q - G.2.1]) := by
      rw [List.getElem?_append_left (by omega)]
      exact ab_wld_get (List.getElem?_eq_getElem hk)
    have := hD.1 _ _ _ _ hg hlast (by show G.2.1 + (q - G.2.1) = q; omega)
    omega
  exact k (by omega) (by omega) T hT X
theorem ab_putfield {G : ab_G} {M : ab_M} {X : ab_X} {pc : Nat} {l : List (Nat × Value)} {st : List Value} {h h1 : List ab_E} (hX : ab_Good G M X) {i ci k a : Nat} {fs : List Value} {v : Value} {ty : FieldType} (hm : decode M.2.1 pc = .ok (.putfield i, 3)) (hs : ab_ps M i ci k ty) (hc : h[a]? = some (.inr (ci, fs))) (hl0 : k < fs.length) (hn : narrow ty (ab_ren G v) = ab_ren G v) (hfit : fits ty (ab_ren G v) = true)
    (hh : h.set a (.inr (ci, fs.set k v)) = h1) (kk : ab_WA G M X (pc + 3) l st h1) : ab_WA G M X pc l (v :: .ref a :: st) h := by
  subst hh
  obtain ⟨p, e, R, s, m, args, below, meth, c, Q, h0⟩ := X
  obtain ⟨hx, hb, hml, hr, hlk, hown, hts, hal, hsz, hkp, hnm, hrf, hrl, hG⟩ := hX
  obtain ⟨C, T, N, ref, ty0, q1, q2, q3, hty, hap, rfl, q5, q4⟩ := hs
  have e1 : (h.set a (.inr (ci, fs.set k v) : ab_E)).length = h.length := List.length_set
  have e2 : ab_sz (h.set a (.inr (ci, fs.set k v))) = ab_sz h := ab_sz_set hc rfl
  refine ⟨by rw [← e1]; exact kk.1, by rw [← e2]; exact kk.2.1, fun ls H locs g1 g2 hl hR hS => ?_⟩
  have hK := va_K.moved hal.alike hG.1
  have he : (ab_wld G h)[a]? = some (G.2.1 + a, .inr (ci, fs.map (ab_ren G))) := ab_wld_get hc
  have hl1 : k < (fs.map (ab_ren G)).length := by rw [List.length_map]; exact hl0
  have go : ∀ (H1 : Heap) (locs1 : List Loc), va_P G.1 ab_cls ((ab_wld G h).set a (G.2.1 + a, .inr (ci, (fs.map (ab_ren G)).set k (ab_ren G v)))) H1 → va_D (ab_A G) ((ab_wld G h).set a (G.2.1 + a, .inr (ci, (fs.map (ab_ren G)).set k (ab_ren G v)))) → va_S (ab_A G) s.heap H1 locs1 → W p G.2.2.2.2.2 e R s m args below meth c H1 locs1 (h.length - h0.length) (ab_sz h - ab_sz h0) Q (F0 m (pc + 3) ls (st.map (ab_ren G))) := by
    intro H1 locs1 hP1 hD1 hS1
    have hP2 : va_P G.1 ab_cls (ab_wld G (h.set a (.inr (ci, fs.set k v)))) H1 := by
      rw [ab_wld_set]
      show va_P G.1 ab_cls ((ab_wld G h).set a (G.2.1 + a, .inr (ci, (fs.set k v).map (ab_ren G)))) H1
      rw [List.map_set]
      exact hP1
    refine ab_size (n0 := h0.length) hP2 hsz (by rw [e1]; omega) hS1.1 fun hz => ?_
    have w := kk.2.2 ls H1 locs1 (by rw [e1]; exact g1) (by rw [e2]; exact g2) hl ⟨hP2, hz, fun q hq => (hS1.2.1 q (by omega) (Nat.not_le.mpr hq)).trans (hkp q hq)⟩ hS1
    rw [e1, e2] at w
    exact w
  rcases q4 with ⟨q4, q6⟩ | ⟨⟨host, q4⟩, q6⟩
  · rcases q6 with q6 | ⟨q6, q7, q8⟩
    · exact va_put (D := G.1) hx hb hts q3 ty0 hty hap hown hK hR.1 (ab_wld_D G h) hS a he q1 k q2 (hts _ q4) (ab_same hts q5) q6 (hty k q2) hn hfit hl1 hm go
    · exact va_putF (D := G.1) hx hb hts q3 ty0 hty hap hown hK hR.1 (ab_wld_D G h) hS a he q1 k q2 (hts _ q4) (ab_same hts q5) q6 (hnm.trans q7) q8 (hty k q2) hn hfit hl1 hm go
  · exact va_putN (D := G.1) hx hb hts q3 ty0 hty hap hown hK hR.1 (ab_wld_D G h) hS a he q1 k q2 (va_Nw.use rfl (ab_nw hG hal q4)) (ab_same hts q5) q6 (hty k q2) hn hfit hl1 hm go
