/-! Rules for arrays, what is new, statics, casts. -/
theorem ab_iaload {G : ab_G} {M : ab_M} {X : ab_X} {pc : Nat} {l : List (Nat × Value)} {st : List Value} {h : List ab_E} (hX : ab_Good G M X) {a n : Nat} {f : Nat → Int32} {i : Int32} (hm : decode M.2.1 pc = .ok (.iaload, 1)) (hc : h[a]? = some (.inl (0, n, .inl f))) (hin : vp_in i n)
    (kk : ab_WA G M X (pc + 1) l (.int (f i.toNatClampNeg) :: st) h) : ab_WA G M X pc l (.int i :: .ref a :: st) h := by
  obtain ⟨p, e, R, s, m, args, below, meth, c, Q, h0⟩ := X
  obtain ⟨hx, hb, hml, hr, hlk, hown, hts, hal, hsz, hkp, hnm, hrf, hrl, hG⟩ := hX
  refine ⟨kk.1, kk.2.1, fun ls H locs g1 g2 hl hR hS => ?_⟩
  have w := kk.2.2 ls H locs g1 g2 hl hR hS
  have hK := va_K.moved hal.alike hG.1
  have he : (ab_wld G h)[a]? = some (G.2.1 + a, .inl (G.2.2.2.1 0, n, .inl f)) := ab_wld_get hc
  exact va_iald (D := G.1) hx hb hK hR.1 a 0 he rfl hin hm w
theorem ab_laload {G : ab_G} {M : ab_M} {X : ab_X} {pc : Nat} {l : List (Nat × Value)} {st : List Value} {h : List ab_E} (hX : ab_Good G M X) {a n : Nat} {f : Nat → Int64} {i : Int32} (hm : decode M.2.1 pc = .ok (.laload, 1)) (hc : h[a]? = some (.inl (1, n, .inr (.inl f)))) (hin : vp_in i n)
    (kk : ab_WA G M X (pc + 1) l (.long (f i.toNatClampNeg) :: st) h) : ab_WA G M X pc l (.int i :: .ref a :: st) h := by
  obtain ⟨p, e, R, s, m, args, below, meth, c, Q, h0⟩ := X
  obtain ⟨hx, hb, hml, hr, hlk, hown, hts, hal, hsz, hkp, hnm, hrf, hrl, hG⟩ := hX
  refine ⟨kk.1, kk.2.1, fun ls H locs g1 g2 hl hR hS => ?_⟩
  have w := kk.2.2 ls H locs g1 g2 hl hR hS
  have hK := va_K.moved hal.alike hG.1
  have he : (ab_wld G h)[a]? = some (G.2.1 + a, .inl (G.2.2.2.1 1, n, .inr (.inl f))) := ab_wld_get hc
  exact va_lald (D := G.1) hx hb hK hR.1 a 1 he rfl hin hm w
/-- array of references: t its class's place (2: Object, 3: Shelf) -/
theorem ab_aaload {G : ab_G} {M : ab_M} {X : ab_X} {pc : Nat} {l : List (Nat × Value)} {st : List Value} {h : List ab_E} (hX : ab_Good G M X) {a n t : Nat} {f : Nat → Option Nat} {i : Int32} {v : Value} (ht : t = 2 ∨ t = 3) (hm : decode M.2.1 pc = .ok (.aaload, 1)) (hc : h[a]? = some (.inl (t, n, .inr (.inr (.inr (.inr f)))))) (hin : vp_in i n) (hv : va_rf (f i.toNatClampNeg) = v)
    (kk : ab_WA G M X (pc + 1) l (v :: st) h) : ab_WA G M X pc l (.int i :: .ref a :: st) h := by
  subst hv
  obtain ⟨p, e, R, s, m, args, below, meth, c, Q, h0⟩ := X
  obtain ⟨hx, hb, hml, hr, hlk, hown, hts, hal, hsz, hkp, hnm, hrf, hrl, hG⟩ := hX
  refine ⟨kk.1, kk.2.1, fun ls H locs g1 g2 hl hR hS => ?_⟩
  have w := kk.2.2 ls H locs g1 g2 hl hR hS
  have hK := va_K.moved hal.alike hG.1
  have he : (ab_wld G h)[a]? = some (G.2.1 + a, .inl (G.2.2.2.1 t, n, .inr (.inr (.inr (.inr (fun j => (f j).map (G.2.1 + ·))))))) := ab_wld_get hc
  have e2 : va_rf ((f i.toNatClampNeg).map (G.2.1 + ·)) = ab_ren G (va_rf (f i.toNatClampNeg)) := by cases f i.toNatClampNeg <;> rfl
  rcases ht with rfl | rfl
  · exact va_aldq (D := G.1) hx hb hK hR.1 a 2 he rfl hin hm (by rw [e2]; exact w)
  · exact va_aldq (D := G.1) hx hb hK hR.1 a 3 he rfl hin hm (by rw [e2]; exact w)
theorem ab_alen {G : ab_G} {M : ab_M} {X : ab_X} {pc : Nat} {l : List (Nat × Value)} {st : List Value} {h : List ab_E} (hX : ab_Good G M X) {a t : Nat} {x : vp_A} {v : Int32} (hm : decode M.2.1 pc = .ok (.arraylength, 1)) (hc : h[a]? = some (.inl (t, x))) (ht : t < 4) (hv : Int32.ofNat x.1 = v)
    (kk : ab_WA G M X (pc + 1) l (.int v :: st) h) : ab_WA G M X pc l (.ref a :: st) h := by
  obtain ⟨p, e, R, s, m, args, below, meth, c, Q, h0⟩ := X
  obtain ⟨hx, hb, hml, hr, hlk, hown, hts, hal, hsz, hkp, hnm, hrf, hrl, hG⟩ := hX
  refine ⟨kk.1, kk.2.1, fun ls H locs g1 g2 hl hR hS => ?_⟩
  have w := kk.2.2 ls H locs g1 g2 hl hR hS
  have hK := va_K.moved hal.alike hG.1
  have he : (ab_wld G h)[a]? = some (G.2.1 + a, .inl (G.2.2.2.1 t, ab_renA G x)) := ab_wld_get hc
  have hv2 : Int32.ofNat (ab_renA G x).1 = v := by
    rw [← hv]
    obtain ⟨n, f⟩ := x
    rcases f with f | f | f | f | f <;> rfl
  have hty : ∃ ty, (ab_tys G)[t]? = some (G.2.2.2.1 t, ty) := by
    match t, ht with
    | 0, _ => exact ⟨_, rfl⟩
    | 1, _ => exact ⟨_, rfl⟩
    | 2, _ => exact ⟨_, rfl⟩
    | 3, _ => exact ⟨_, rfl⟩
  obtain ⟨ty, hty⟩ := hty
  exact va_alen (D := G.1) hx hb hK hR.1 a t he hty hv2 hm w
section STORES
variable {G : ab_G} {M : ab_M} {pc : Nat} {l : List (Nat × Value)} {st : List Value} {h : List ab_E}
variable {p : Program} {e : Env} {R : Room} {s : State} {m : MethodId} {args : Array Value} {below : List Frame} {meth : Method} {c : Code} {Q : State → Prop} {h0 : List ab_E}
/-- behind the writing of one cell of the same size -/
theorem ab_after {ls : Array Slot} {a : Nat} {c0 c1 : ab_E} {pc2 : Nat} (hc : h[a]? = some c0) (hsame : ab_szE c1 = ab_szE c0) (hsz : s.heap.size = G.2.1 + h0.length) (hkp : ∀ q : Nat, q < G.2.1 → s.heap[q]? = G.2.2.2.2.1.heap[q]?) (g1 : h0.length ≤ h.length) (g2 : ab_sz h0 ≤ ab_sz h) (hl : lv_has ls M.2.2.1 (ab_ll G l))
    (kk : ab_WA G M (p, e, R, s, m, args, below, meth, c, Q, h0) pc2 l st (h.set a c1)) :
    ∀ (H1 : Heap) (locs1 : List Loc), va_P G.1 ab_cls ((ab_wld G h).set a (G.2.1 + a, ab_renE G c1)) H1 → va_D (ab_A G) ((ab_wld G h).set a (G.2.1 + a, ab_renE G c1)) → va_S (ab_A G) s.heap H1 locs1 → W p G.2.2.2.2.2 e R s m args below meth c H1 locs1 (h.length - h0.length) (ab_sz h - ab_sz h0) Q (F0 m pc2 ls (st.map (ab_ren G))) := by
  intro H1 locs1 hP1 hD1 hS1
  have e1 : (h.set a c1).length = h.length := List.length_set
  have e2 : ab_sz (h.set a c1) = ab_sz h := ab_sz_set hc hsame
  have hP2 : va_P G.1 ab_cls (ab_wld G (h.set a c1)) H1 := by rw [ab_wld_set]; exact hP1
  refine ab_size (n0 := h0.length) hP2 hsz (by rw [e1]; omega) hS1.1 fun hz => ?_
  have w := kk.2.2 ls H1 locs1 (by rw [e1]; exact g1) (by rw [e2]; exact g2) hl ⟨hP2, hz, fun q hq => (hS1.2.1 q (by omega) (Nat.not_le.mpr hq)).trans (hkp q hq)⟩ hS1
  rw [e1, e2] at w
  exact w
end STORES
theorem ab_iastore {G : ab_G} {M : ab_M} {X : ab_X} {pc : Nat} {l : List (Nat × Value)} {st : List Value} {h h1 : List ab_E} (hX : ab_Good G M X) {a n : Nat} {f : Nat → Int32} {i x : Int32} (hm : decode M.2.1 pc = .ok (.iastore, 1)) (hc : h[a]? = some (.inl (0, n, .inl f))) (hin : vp_in i n)
    (hh : h.set a (.inl (0, n, .inl (upd f i.toNatClampNeg x))) = h1) (kk : ab_WA G M X (pc + 1) l st h1) : ab_WA G M X pc l (.int x :: .int i :: .ref a :: st) h := by
  subst hh
  obtain ⟨p, e, R, s, m, args, below, meth, c, Q, h0⟩ := X
  obtain ⟨hx, hb, hml, hr, hlk, hown, hts, hal, hsz, hkp, hnm, hrf, hrl, hG⟩ := hX
  have e1 : (h.set a (.inl (0, n, .inl (upd f i.toNatClampNeg x)) : ab_E)).length = h.length := List.length_set
  have e2 : ab_sz (h.set a (.inl (0, n, .inl (upd f i.toNatClampNeg x)))) = ab_sz h := ab_sz_set hc rfl
  refine ⟨by rw [← e1]; exact kk.1, by rw [← e2]; exact kk.2.1, fun ls H locs g1 g2 hl hR hS => ?_⟩
  have hK := va_K.moved hal.alike hG.1
  have he : (ab_wld G h)[a]? = some (G.2.1 + a, .inl (G.2.2.2.1 0, n, .inl f)) := ab_wld_get hc
  exact va_iast (D := G.1) hx hb hK hR.1 (ab_wld_D G h) hS a 0 he rfl hin hm (ab_after (c1 := .inl (0, n, .inl (upd f i.toNatClampNeg x))) hc rfl hsz hkp g1 g2 hl kk)
theorem ab_lastore {G : ab_G} {M : ab_M} {X : ab_X} {pc : Nat} {l : List (Nat × Value)} {st : List Value} {h h1 : List ab_E} (hX : ab_Good G M X) {a n : Nat} {f : Nat → Int64} {i : Int32} {x : Int64} (hm : decode M.2.1 pc = .ok (.lastore, 1)) (hc : h[a]? = some (.inl (1, n, .inr (.inl f)))) (hin : vp_in i n)
    (hh : h.set a (.inl (1, n, .inr (.inl (vp_updL f i.toNatClampNeg x)))) = h1) (kk : ab_WA G M X (pc + 1) l st h1) : ab_WA G M X pc l (.long x :: .int i :: .ref a :: st) h := by
  subst hh
  obtain ⟨p, e, R, s, m, args, below, meth, c, Q, h0⟩ := X
  obtain ⟨hx, hb, hml, hr, hlk, hown, hts, hal, hsz, hkp, hnm, hrf, hrl, hG⟩ := hX
  have e1 : (h.set a (.inl (1, n, .inr (.inl (vp_updL f i.toNatClampNeg x))) : ab_E)).length = h.length := List.length_set
  have e2 : ab_sz (h.set a (.inl (1, n, .inr (.inl (vp_updL f i.toNatClampNeg x))))) = ab_sz h := ab_sz_set hc rfl
  refine ⟨by rw [← e1]; exact kk.1, by rw [← e2]; exact kk.2.1, fun ls H locs g1 g2 hl hR hS => ?_⟩
  have hK := va_K.moved hal.alike hG.1
  have he : (ab_wld G h)[a]? = some (G.2.1 + a, .inl (G.2.2.2.1 1, n, .inr (.inl f))) := ab_wld_get hc
  exact va_last (D := G.1) hx hb hK hR.1 (ab_wld_D G h) hS a 1 he rfl hin hm (ab_after (c1 := .inl (1, n, .inr (.inl (vp_updL f i.toNatClampNeg x)))) hc rfl hsz hkp g1 g2 hl kk)
/-- an object stored into an array of its own class -/
theorem ab_renA_up (G : ab_G) (f : Nat → Option Nat) (k v : Nat) : (fun j => ((va_up f k (some v)) j).map (G.2.1 + ·)) = va_up (fun j => (f j).map (G.2.1 + ·)) k (some (G.2.1 + v)) := by
  funext j
  unfold va_up
  by_cases h : j = k
  · rw [if_pos h, if_pos h]; rfl
  · rw [if_neg h, if_neg h]
theorem ab_renA_upN (G : ab_G) (f : Nat → Option Nat) (k : Nat) : (fun j => ((va_up f k none) j).map (G.2.1 + ·)) = va_up (fun j => (f j).map (G.2.1 + ·)) k none := by
  funext j
  unfold va_up
  by_cases h : j = k
  · rw [if_pos h, if_pos h]; rfl
  · rw [if_neg h, if_neg h]
/-- an object of class ci into an array of Shelf (t 3: ci 10) or of Object (t 2: any that is castable) -/
theorem ab_aastore {G : ab_G} {M : ab_M} {X : ab_X} {pc : Nat} {l : List (Nat × Value)} {st : List Value} {h h1 : List ab_E} (hX : ab_Good G M X) {a n t ci v : Nat} {vs : List Value} {r : vw_C} {f : Nat → Option Nat} {i : Int32} (hm : decode M.2.1 pc = .ok (.aastore, 1)) (ht : (t = 2 ∧ Cond.castable r.1 "java/lang/Object" ∈ ab_Tn) ∨ (t = 3 ∧ r.1 = "WitnessesMustLie$Shelf")) (hc : h[a]? = some (.inl (t, n, .inr (.inr (.inr (.inr f)))))) (hin : vp_in i n) (hv : h[v]? = some (.inr (ci, vs))) (hr0 : ab_cls[ci]? = some r)
    (hh : h.set a (.inl (t, n, .inr (.inr (.inr (.inr (va_up f i.toNatClampNeg (some v))))))) = h1) (kk : ab_WA G M X (pc + 1) l st h1) : ab_WA G M X pc l (.ref v :: .int i :: .ref a :: st) h := by
  subst hh
  obtain ⟨p, e, R, s, m, args, below, meth, c, Q, h0⟩ := X
  obtain ⟨hx, hb, hml, hr, hlk, hown, hts, hal, hsz, hkp, hnm, hrf, hrl, hG⟩ := hX
  have e1 : (h.set a (.inl (t, n, .inr (.inr (.inr (.inr (va_up f i.toNatClampNeg (some v)))))) : ab_E)).length = h.length := List.length_set
  have e2 : ab_sz (h.set a (.inl (t, n, .inr (.inr (.inr (.inr (va_up f i.toNatClampNeg (some v)))))))) = ab_sz h := ab_sz_set hc rfl
  refine ⟨by rw [← e1]; exact kk.1, by rw [← e2]; exact kk.2.1, fun ls H locs g1 g2 hl hR hS => ?_⟩
  have hK := va_K.moved hal.alike hG.1
  have he : (ab_wld G h)[a]? = some (G.2.1 + a, .inl (G.2.2.2.1 t, n, .inr (.inr (.inr (.inr (fun j => (f j).map (G.2.1 + ·))))))) := ab_wld_get hc
  have hv2 : (ab_wld G h)[v]? = some (G.2.1 + v, .inr (ci, vs.map (ab_ren G))) := ab_wld_get hv
  have go := ab_after (l := l) (st := st) (c1 := .inl (t, n, .inr (.inr (.inr (.inr (va_up f i.toNatClampNeg (some v))))))) hc rfl hsz hkp g1 g2 hl kk
  have er : ab_renE G (.inl (t, n, .inr (.inr (.inr (.inr (va_up f i.toNatClampNeg (some v))))))) = .inl (G.2.2.2.1 t, n, .inr (.inr (.inr (.inr (va_up (fun j => (f j).map (G.2.1 + ·)) i.toNatClampNeg (some (G.2.1 + v))))))) := by
    show (Sum.inl (G.2.2.2.1 t, n, .inr (.inr (.inr (.inr (fun j => ((va_up f i.toNatClampNeg (some v)) j).map (G.2.1 + ·)))))) : va_E) = _
    rw [ab_renA_up]
  rw [er] at go
  rcases ht with ⟨rfl, hcast⟩ | ⟨rfl, hrn⟩
  · exact va_astqO (D := G.1) (E := "java/lang/Object") hx hb hK hR.1 (ab_wld_D G h) hS a 2 v ci he rfl (ab_nw hG hal hcast) hv2 hr0 hin hm go
  · exact va_astq (D := G.1) hx hb hK hR.1 (ab_wld_D G h) hS a 3 v ci he (by rw [hrn]; rfl) hv2 hr0 hin hm go
theorem ab_aastoreN {G : ab_G} {M : ab_M} {X : ab_X} {pc : Nat} {l : List (Nat × Value)} {st : List Value} {h h1 : List ab_E} (hX : ab_Good G M X) {a n : Nat} {f : Nat → Option Nat} {i : Int32} (hm : decode M.2.1 pc = .ok (.aastore, 1)) (hc : h[a]? = some (.inl (2, n, .inr (.inr (.inr (.inr f)))))) (hin : vp_in i n)
    (hh : h.set a (.inl (2, n, .inr (.inr (.inr (.inr (va_up f i.toNatClampNeg none)))))) = h1) (kk : ab_WA G M X (pc + 1) l st h1) : ab_WA G M X pc l (.null :: .int i :: .ref a :: st) h := by
  subst hh
  obtain ⟨p, e, R, s, m, args, below, meth, c, Q, h0⟩ := X
  obtain ⟨hx, hb, hml, hr, hlk, hown, hts, hal, hsz, hkp, hnm, hrf, hrl, hG⟩ := hX
  have e1 : (h.set a (.inl (2, n, .inr (.inr (.inr (.inr (va_up f i.toNatClampNeg none))))) : ab_E)).length = h.length := List.length_set
  have e2 : ab_sz (h.set a (.inl (2, n, .inr (.inr (.inr (.inr (va_up f i.toNatClampNeg none))))))) = ab_sz h := ab_sz_set hc rfl
  refine ⟨by rw [← e1]; exact kk.1, by rw [← e2]; exact kk.2.1, fun ls H locs g1 g2 hl hR hS => ?_⟩
  have hK := va_K.moved hal.alike hG.1
  have he : (ab_wld G h)[a]? = some (G.2.1 + a, .inl (G.2.2.2.1 2, n, .inr (.inr (.inr (.inr (fun j => (f j).map (G.2.1 + ·))))))) := ab_wld_get hc
  have go := ab_after (l := l) (st := st) (c1 := .inl (2, n, .inr (.inr (.inr (.inr (va_up f i.toNatClampNeg none)))))) hc rfl hsz hkp g1 g2 hl kk
  have er : ab_renE G (.inl (2, n, .inr (.inr (.inr (.inr (va_up f i.toNatClampNeg none)))))) = .inl (G.2.2.2.1 2, n, .inr (.inr (.inr (.inr (va_up (fun j => (f j).map (G.2.1 + ·)) i.toNatClampNeg none))))) := by
    show (Sum.inl (G.2.2.2.1 2, n, .inr (.inr (.inr (.inr (fun j => ((va_up f i.toNatClampNeg none) j).map (G.2.1 + ·)))))) : va_E) = _
    rw [ab_renA_upN]
  rw [er] at go
  exact va_astqN (D := G.1) hx hb hK hR.1 (ab_wld_D G h) hS a 2 he rfl hin hm go
/-- a new object of class ci at pool entry i -/
def ab_ns (M : ab_M) (i ci : Nat) (fs : List Value) : Prop := ∃ (C : String) (T : u_T) (N : Nat) (ty0 : Nat → FieldType), ab_cls[ci]? = some (C, T, N) ∧ (∀ w ∈ u_ws C T N, w ∈ ab_Tg) ∧ (∀ k, k < N → parseFieldDescriptor (T k).2.2.1 = some (ty0 k)) ∧
  Cond.classLink M.1.cls i C ∈ ab_Tg ∧ Cond.instantiable C N ∈ ab_Tg ∧ Cond.initialized C ∈ ab_Tg ∧ (∀ (G : ab_G) (j : Nat), j < N → defaultValue (ty0 j) = vp_V (fs.map (ab_ren G)) j)
theorem ab_new {G : ab_G} {M : ab_M} {X : ab_X} {pc : Nat} {l : List (Nat × Value)} {st : List Value} {h : List ab_E} (hX : ab_Good G M X) {i ci : Nat} {fs : List Value} (hm : decode M.2.1 pc = .ok (.new i, 3)) (hs : ab_ns M i ci fs)
    (kk : ab_WA G M X (pc + 3) l (.ref h.length :: st) (h ++ [.inr (ci, fs)])) : ab_WA G M X pc l st h := by
  obtain ⟨p, e, R, s, m, args, below, meth, c, Q, h0⟩ := X
  obtain ⟨hx, hb, hml, hr, hlk, hown, hts, hal, hsz, hkp, hnm, hrf, hrl, hG⟩ := hX
  obtain ⟨C, T, N, ty0, q1, q2, q3, q4, q5, q6, q7⟩ := hs
  have e1 : (h ++ [(.inr (ci, fs) : ab_E)]).length = h.length + 1 := by simp
  have e2 : ab_sz h + N ≤ ab_sz (h ++ [.inr (ci, fs)]) := by
    rw [ab_sz_app]
    have e3 : ab_szE (.inr (ci, fs)) = if N = 0 then 6 else N := by simp [ab_szE, q1]
    rw [e3]
    split <;> omega
  have b1 := kk.1
  have b2 := kk.2.1
  rw [e1] at b1
  refine ⟨by omega, by omega, fun ls H locs g1 g2 hl hR hS => ?_⟩
  have hK := va_K.moved hal.alike hG.1
  refine va_new (D := G.1) hx hb hts q2 ty0 q3 hown (hts _ q4) (hts _ q5) (hts _ q6) hK hR.1 (ab_wld_D G h) hS (fun q hq => by show G.2.1 ≤ q; omega) q1 (q7 G) (by omega) (by omega) hm fun q H1 hP1 hD1 hS1 => ?_
  refine ab_place (n0 := h0.length) hP1 hD1 hsz (by omega) fun hq hz => ?_
  subst hq
  have hP2 : va_P G.1 ab_cls (ab_wld G (h ++ [.inr (ci, fs)])) H1 := by rw [ab_wld_app]; exact hP1
  have w := kk.2.2 ls H1 locs (by omega) (by omega) hl ⟨hP2, by rw [hz, e1], fun q hq => (hS1.2.1 q (by omega) (Nat.not_le.mpr hq)).trans (hkp q hq)⟩ hS1
  rw [e1, show h.length + 1 - h0.length = h.length - h0.length + 1 by omega] at w
  exact W.widen (Nat.le_refl _) (by omega) w
/-- what findClass says of an array's class -/
theorem ab_newint {G : ab_G} {M : ab_M} {X : ab_X} {pc : Nat} {l : List (Nat × Value)} {st : List Value} {h : List ab_E} (hX : ab_Good G M X) {n : Int32} {N : Nat} (hm : decode M.2.1 pc = .ok (.newarray .int, 2)) (hw : Cond.arrayClass .int ∈ ab_Tg) (hn : ¬ n < 0) (hN : n.toNatClampNeg = N) (hb0 : N * 4 ≤ 536870912)
    (kk : ab_WA G M X (pc + 2) l (.ref h.length :: st) (h ++ [.inl (0, N, .inl (fun _ => 0))])) : ab_WA G M X pc l (.int n :: st) h := by
  obtain ⟨p, e, R, s, m, args, below, meth, c, Q, h0⟩ := X
  obtain ⟨hx, hb, hml, hr, hlk, hown, hts, hal, hsz, hkp, hnm, hrf, hrl, hG⟩ := hX
  have e1 : (h ++ [(.inl (0, N, .inl (fun _ => 0)) : ab_E)]).length = h.length + 1 := by simp
  have e2 : ab_sz (h ++ [.inl (0, N, .inl (fun _ => 0))]) = ab_sz h + N := ab_sz_app _ _
  have b1 := kk.1
  have b2 := kk.2.1
  rw [e1] at b1
  rw [e2] at b2
  refine ⟨by omega, by omega, fun ls H locs g1 g2 hl hR hS => ?_⟩
  have hK := va_K.moved hal.alike hG.1
  refine va_newa (D := G.1) (atype := .int) (ty := .int) (a0 := (N, .inl (fun _ => 0))) hx hb (hts _ hw) rfl hK hR.1 (ab_wld_D G h) hS (fun q hq => by show G.2.1 ≤ q; omega) (fun cA => rfl) hn hN hb0 (by omega) (by omega) hm fun q cA H1 hK1 hP1 hD1 hS1 => ?_
  have hcA : cA = G.2.2.2.1 0 := by
    have h1 : s.vm.findClass ("[" ++ FieldType.int.toString) = some cA := (hK1.2 4 (cA, .int) rfl).2
    have h2 : s.vm.findClass ("[" ++ FieldType.int.toString) = some (G.2.2.2.1 0) := (hK1.2 0 (G.2.2.2.1 0, .int) rfl).2
    exact Option.some.inj (h1.symm.trans h2)
  subst hcA
  refine ab_place (n0 := h0.length) hP1 hD1 hsz (by omega) fun hq hz => ?_
  subst hq
  have hP2 : va_P G.1 ab_cls (ab_wld G (h ++ [.inl (0, N, .inl (fun _ => 0))])) H1 := by rw [ab_wld_app]; exact hP1
  have w := kk.2.2 ls H1 locs (by omega) (by omega) hl ⟨hP2, by rw [hz, e1], fun q hq => (hS1.2.1 q (by omega) (Nat.not_le.mpr hq)).trans (hkp q hq)⟩ hS1
  rw [e1, e2, show h.length + 1 - h0.length = h.length - h0.length + 1 by omega, show ab_sz h + N - ab_sz h0 = ab_sz h - ab_sz h0 + N by omega] at w
  exact w
theorem ab_newlong {G : ab_G} {M : ab_M} {X : ab_X} {pc : Nat} {l : List (Nat × Value)} {st : List Value} {h : List ab_E} (hX : ab_Good G M X) {n : Int32} {N : Nat} (hm : decode M.2.1 pc = .ok (.newarray .long, 2)) (hw : Cond.arrayClass .long ∈ ab_Tg) (hn : ¬ n < 0) (hN : n.toNatClampNeg = N) (hb0 : N * 8 ≤ 536870912)
    (kk : ab_WA G M X (pc + 2) l (.ref h.length :: st) (h ++ [.inl (1, N, .inr (.inl (fun _ => 0)))])) : ab_WA G M X pc l (.int n :: st) h := by
  obtain ⟨p, e, R, s, m, args, below, meth, c, Q, h0⟩ := X
  obtain ⟨hx, hb, hml, hr, hlk, hown, hts, hal, hsz, hkp, hnm, hrf, hrl, hG⟩ := hX
  have e1 : (h ++ [(.inl (1, N, .inr (.inl (fun _ => 0))) : ab_E)]).length = h.length + 1 := by simp
  have e2 : ab_sz (h ++ [.inl (1, N, .inr (.inl (fun _ => 0)))]) = ab_sz h + N := ab_sz_app _ _
  have b1 := kk.1
  have b2 := kk.2.1
  rw [e1] at b1
  rw [e2] at b2
  refine ⟨by omega, by omega, fun ls H locs g1 g2 hl hR hS => ?_⟩
  have hK := va_K.moved hal.alike hG.1
  refine va_newa (D := G.1) (atype := .long) (ty := .long) (a0 := (N, .inr (.inl (fun _ => 0)))) hx hb (hts _ hw) rfl hK hR.1 (ab_wld_D G h) hS (fun q hq => by show G.2.1 ≤ q; omega) (fun cA => rfl) hn hN hb0 (by omega) (by omega) hm fun q cA H1 hK1 hP1 hD1 hS1 => ?_
  have hcA : cA = G.2.2.2.1 1 := by
    have h1 : s.vm.findClass ("[" ++ FieldType.long.toString) = some cA := (hK1.2 4 (cA, .long) rfl).2
    have h2 : s.vm.findClass ("[" ++ FieldType.long.toString) = some (G.2.2.2.1 1) := (hK1.2 1 (G.2.2.2.1 1, .long) rfl).2
    exact Option.some.inj (h1.symm.trans h2)
  subst hcA
  refine ab_place (n0 := h0.length) hP1 hD1 hsz (by omega) fun hq hz => ?_
  subst hq
  have hP2 : va_P G.1 ab_cls (ab_wld G (h ++ [.inl (1, N, .inr (.inl (fun _ => 0)))])) H1 := by rw [ab_wld_app]; exact hP1
  have w := kk.2.2 ls H1 locs (by omega) (by omega) hl ⟨hP2, by rw [hz, e1], fun q hq => (hS1.2.1 q (by omega) (Nat.not_le.mpr hq)).trans (hkp q hq)⟩ hS1
  rw [e1, e2, show h.length + 1 - h0.length = h.length - h0.length + 1 by omega, show ab_sz h + N - ab_sz h0 = ab_sz h - ab_sz h0 + N by omega] at w
  exact w
theorem ab_anew {G : ab_G} {M : ab_M} {X : ab_X} {pc : Nat} {l : List (Nat × Value)} {st : List Value} {h : List ab_E} (hX : ab_Good G M X) {i t : Nat} {C : String} {n : Int32} {N : Nat} (hm : decode M.2.1 pc = .ok (.anewarray i, 3)) (ht : (t = 2 ∧ C = "java/lang/Object") ∨ (t = 3 ∧ C = "WitnessesMustLie$Shelf")) (hw1 : Cond.classLink M.1.cls i C ∈ ab_Tg) (hw2 : Cond.arrayOver (.object C) ∈ ab_Tn) (hn : ¬ n < 0) (hN : n.toNatClampNeg = N) (hb0 : N * 4 ≤ 536870912)
    (kk : ab_WA G M X (pc + 3) l (.ref h.length :: st) (h ++ [.inl (t, N, .inr (.inr (.inr (.inr (fun _ => none)))))])) : ab_WA G M X pc l (.int n :: st) h := by
  obtain ⟨p, e, R, s, m, args, below, meth, c, Q, h0⟩ := X
  obtain ⟨hx, hb, hml, hr, hlk, hown, hts, hal, hsz, hkp, hnm, hrf, hrl, hG⟩ := hX
  have e1 : (h ++ [(.inl (t, N, .inr (.inr (.inr (.inr (fun _ => none))))) : ab_E)]).length = h.length + 1 := by simp
  have e2 : ab_sz (h ++ [.inl (t, N, .inr (.inr (.inr (.inr (fun _ => none)))))]) = ab_sz h + N := ab_sz_app _ _
  have b1 := kk.1
  have b2 := kk.2.1
  rw [e1] at b1
  rw [e2] at b2
  refine ⟨by omega, by omega, fun ls H locs g1 g2 hl hR hS => ?_⟩
  have hK := va_K.moved hal.alike hG.1
  refine va_newq (D := G.1) hx hb hown (hts _ hw1) (ab_nw hG hal hw2) hK hR.1 (ab_wld_D G h) hS (fun q hq => by show G.2.1 ≤ q; omega) hn hN hb0 (by omega) (by omega) hm fun q cA H1 hK1 hP1 hD1 hS1 => ?_
  have hcA : cA = G.2.2.2.1 t := by
    obtain ⟨kA, comp, -, -, -, h1⟩ := (hK1.2 4 (cA, .object C) rfl).2
    rcases ht with ⟨rfl, rfl⟩ | ⟨rfl, rfl⟩
    · obtain ⟨kB, comp2, -, -, -, h2⟩ := (hK1.2 2 (G.2.2.2.1 2, .object "java/lang/Object") rfl).2
      exact Option.some.inj (h1.symm.trans h2)
    · obtain ⟨kB, comp2, -, -, -, h2⟩ := (hK1.2 3 (G.2.2.2.1 3, .object "WitnessesMustLie$Shelf") rfl).2
      exact Option.some.inj (h1.symm.trans h2)
  subst hcA
  refine ab_place (n0 := h0.length) hP1 hD1 hsz (by omega) fun hq hz => ?_
  subst hq
  have hP2 : va_P G.1 ab_cls (ab_wld G (h ++ [.inl (t, N, .inr (.inr (.inr (.inr (fun _ => none)))))])) H1 := by rw [ab_wld_app]; exact hP1
  have w := kk.2.2 ls H1 locs (by omega) (by omega) hl ⟨hP2, by rw [hz, e1], fun q hq => (hS1.2.1 q (by omega) (Nat.not_le.mpr hq)).trans (hkp q hq)⟩ hS1
  rw [e1, e2, show h.length + 1 - h0.length = h.length - h0.length + 1 by omega, show ab_sz h + N - ab_sz h0 = ab_sz h - ab_sz h0 + N by omega] at w
  exact w
