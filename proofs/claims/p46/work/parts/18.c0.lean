/-! rules that the class wants -/
theorem ab_acmpeqT {G : ab_G} {M : ab_M} {X : ab_X} {pc : Nat} {l : List (Nat × Value)} {st : List Value} {h : List ab_E} (hX : ab_Good G M X) {v : Value} {a : Nat} {off : Int} {tgt : Nat} (hm : decode M.2.1 pc = .ok (.if_acmp .eq off, 3)) (ht : (pc : Int) + off = (tgt : Int)) (hv : ab_ren G v = .ref a) (k : ab_WA G M X tgt l st h) : ab_WA G M X pc l (v :: v :: st) h := by
  obtain ⟨p, e, R, s, m, args, below, meth, c, Q, h0⟩ := X
  obtain ⟨hx, hb, hml, hr, hlk, hown, hts, hal, hsz, hkp, hnm, hrf, hrl, hG⟩ := hX
  have e : (v :: v :: st).map (ab_ren G) = va_rf (some a) :: va_rf (some a) :: st.map (ab_ren G) := by rw [List.map_cons, List.map_cons, hv]; rfl
  exact ⟨k.1, k.2.1, fun ls H locs g1 g2 hl hR hS => by
    rw [e]
    exact lv_acmp_eq hx hb hm ht (fun _ => k.2.2 ls H locs g1 g2 hl hR hS) (fun n => absurd rfl n)⟩
theorem ab_castS {G : ab_G} {M : ab_M} {X : ab_X} {pc : Nat} {l : List (Nat × Value)} {st : List Value} {h : List ab_E} (hX : ab_Good G M X) {i ci a : Nat} {fs : List Value} {q : vw_C} (hm : decode M.2.1 pc = .ok (.checkcast i, 3)) (hc : h[a]? = some (.inr (ci, fs))) (hq : ab_cls[ci]? = some q) (hw : Cond.classLink M.1.cls i q.1 ∈ ab_Tg)
    (kk : ab_WA G M X (pc + 3) l (.ref a :: st) h) : ab_WA G M X pc l (.ref a :: st) h := by
  obtain ⟨p, e, R, s, m, args, below, meth, c, Q, h0⟩ := X
  obtain ⟨hx, hb, hml, hr, hlk, hown, hts, hal, hsz, hkp, hnm, hrf, hrl, hG⟩ := hX
  refine ⟨kk.1, kk.2.1, fun ls H locs g1 g2 hl hR hS => ?_⟩
  have w := kk.2.2 ls H locs g1 g2 hl hR hS
  have hK := va_K.moved hal.alike hG.1
  have he : (ab_wld G h)[a]? = some (G.2.1 + a, .inr (ci, fs.map (ab_ren G))) := ab_wld_get hc
  exact va_castS hx hb hown (hts _ hw) (hK.1 ci q hq).2 (va_recv hK hR.1 hq he) hm w
theorem tw_nat : Cond.native arraycopyName ∈ ab_Tg := ab_t1 165 rfl rfl
theorem ab_copyi {G : ab_G} {M : ab_M} {X : ab_X} {pc : Nat} {l : List (Nat × Value)} {st : List Value} {h : List ab_E} (hX : ab_Good G M X) {h1 : List ab_E} {index a0 a1 n0 n1 sp dp n : Nat} {f g : Nat → Int32} {x y z : Int32} (hm : decode M.2.1 pc = .ok (.invokestatic index, 3)) (hw : Cond.methodLink M.1.cls index arraycopyName ∈ ab_Tg) (hs : Cond.static arraycopyName ∈ ab_Tg) (hi : Cond.initialized "java/lang/System" ∈ ab_Tg)
    (ha0 : h[a0]? = some (.inl (0, n0, .inl f))) (ha1 : h[a1]? = some (.inl (0, n1, .inl g))) (hx0 : x = nI sp) (hy0 : y = nI dp) (hz0 : z = nI n) (h4 : sp + n ≤ n0) (h5 : dp + n ≤ n1) (hn0 : n0 < 2147483648) (hn1 : n1 < 2147483648) (hrm : 1 ≤ M.2.2.2.2.1 ∧ 40 ≤ M.2.2.2.2.2) (hW : (st.map Value.category).sum ≤ 8)
    (hh : h.set a1 (.inl (0, n1, .inl (va_cpy f g sp dp n))) = h1) (kk : ab_WA G M X (pc + 3) l st h1) : ab_WA G M X pc l (.int z :: .int y :: .ref a1 :: .int x :: .ref a0 :: st) h := by
  subst hh
  subst hx0 hy0 hz0
  have c1 : (nI sp).toNatClampNeg = sp := nI_clamp (by omega)
  have c2 : (nI dp).toNatClampNeg = dp := nI_clamp (by omega)
  have c3 : (nI n).toNatClampNeg = n := nI_clamp (by omega)
  obtain ⟨p, e, R, s, m, args, below, meth, c, Q, h0⟩ := X
  obtain ⟨hx, hb, hml, hr, hlk, hown, hts, hal, hsz, hkp, hnm, hrf, hrl, hG⟩ := hX
  have e1 : (h.set a1 (.inl (0, n1, .inl (va_cpy f g sp dp n)) : ab_E)).length = h.length := List.length_set
  have e2 : ab_sz (h.set a1 (.inl (0, n1, .inl (va_cpy f g sp dp n)))) = ab_sz h := ab_sz_set ha1 rfl
  refine ⟨by rw [← e1]; exact kk.1, by rw [← e2]; exact kk.2.1, fun ls H locs g1 g2 hl hR hS => ?_⟩
  have hK := va_K.moved hal.alike hG.1
  have he0 : (ab_wld G h)[a0]? = some (G.2.1 + a0, .inl (G.2.2.2.1 0, n0, .inl f)) := ab_wld_get ha0
  have he1 : (ab_wld G h)[a1]? = some (G.2.1 + a1, .inl (G.2.2.2.1 0, n1, .inl g)) := ab_wld_get ha1
  have e0 : ((st.map (ab_ren G)).map fun v => v.category).sum ≤ 8 := by rw [ab_catsum]; exact hW
  have e9 : nativeFrameWords "java/lang/System" "arraycopy" 5 ≤ 21 := by decide
  have kz := ab_after (c1 := .inl (0, n1, .inl (va_cpy f g sp dp n))) ha1 rfl hsz hkp g1 g2 hl kk
  have kw : ∀ (H1 : Heap) (locs1 : List Loc), va_P G.1 ab_cls ((ab_wld G h).set a1 (G.2.1 + a1, .inl (G.2.2.2.1 0, n1, .inl (va_cpy f g (nI sp).toNatClampNeg (nI dp).toNatClampNeg (nI n).toNatClampNeg)))) H1 → va_D (ab_A G) ((ab_wld G h).set a1 (G.2.1 + a1, .inl (G.2.2.2.1 0, n1, .inl (va_cpy f g (nI sp).toNatClampNeg (nI dp).toNatClampNeg (nI n).toNatClampNeg)))) → va_S (ab_A G) s.heap H1 locs1 → W p G.2.2.2.2.2 e R s m args below meth c H1 locs1 (h.length - h0.length) (ab_sz h - ab_sz h0) Q (F0 m (pc + 3) ls (st.map (ab_ren G))) := by
    rw [c1, c2, c3]
    exact kz
  exact va_copyi (D := G.1) hx hb (hml.trans hl.1.symm) hown (hts _ hw) (hts _ tw_nat) (hts _ hs) (hts _ hi) hK hR.1 (ab_wld_D G h) hS a0 a1 0 0 he0 he1 rfl rfl rfl (nI_pos (by omega)) (nI_pos (by omega)) (nI_pos (by omega)) (by rw [c1, c3]; exact h4) (by rw [c2, c3]; exact h5) (fun i _ => rfl) (by rw [hrf]; exact hrm.1) (by rw [hrl]; omega) hm kw
theorem gs_s {h : List ab_E} {b : Nat} {c x : ab_E} (hb : h[b]? = some c) : (h.set b x)[b]? = some x := List.getElem?_set_self (List.getElem?_eq_some_iff.mp hb).1
theorem gs_n {h : List ab_E} {b e : Nat} {c x : ab_E} (hne : b ≠ e) (he : h[e]? = some c) : (h.set b x)[e]? = some c := by rw [List.getElem?_set_ne hne]; exact he
theorem ga_o {h : List ab_E} {b : Nat} {c x : ab_E} (hb : h[b]? = some c) : (h ++ [x])[b]? = some c := by rw [List.getElem?_append_left (List.getElem?_eq_some_iff.mp hb).1]; exact hb
theorem ga_n {h : List ab_E} {x : ab_E} : (h ++ [x])[h.length]? = some x := by rw [List.getElem?_append_right (Nat.le_refl _), Nat.sub_self]; rfl
theorem gl_s {h : List ab_E} {b : Nat} {x : ab_E} : h.length ≤ (h.set b x).length := by rw [List.length_set]; exact Nat.le_refl _
theorem gz_s {h : List ab_E} {b : Nat} {c x : ab_E} (hb : h[b]? = some c) (e : ab_szE x = ab_szE c) : ab_sz h ≤ ab_sz (h.set b x) := by rw [ab_sz_set hb e]; exact Nat.le_refl _
theorem gl_a {h : List ab_E} {x : ab_E} : h.length ≤ (h ++ [x]).length := by rw [List.length_append]; omega
theorem gz_a {h : List ab_E} {x : ab_E} : ab_sz h ≤ ab_sz (h ++ [x]) := by rw [ab_sz_app]; omega
/-! the class's state: numbers, rows of numbers, rows of longs, references.
numbers: 0 isKept; 10+t witnesses, 20+t truth (t: court, kept, tried); 30+l size, 40+l count of changes of list l (2t laws, 2t+1 said); 50+d holds, 60+d figure, 70+d sort, 80+d length of shelf d.
rows: t what is known; 10+d the numbers of shelf d. longs: 0 and 1 the lies. references: l the array of list l; 10+d the kind on shelf d -/
abbrev CS : Type := (Nat → Int32) × (Nat → Nat → Int32) × (Nat → Nat → Int64) × (Nat → Value)
def kR (k : Nat) : Nat := if k = 0 then 17 else 18 + k
def kC : Nat → Nat
  | 0 => 9 | 1 => 3 | 2 => 2 | 3 => 4 | 4 => 6 | 5 => 1 | 6 => 5 | _ => 7
def kF (k : Nat) : Option Nat := if k < 8 then some (kR k) else none
def sF (d : Nat) : Option Nat := if d < 8 then some (26 + 2 * d) else none
def alR : Nat → Nat
  | 0 => 4 | 1 => 5 | 2 => 8 | 3 => 9 | 4 => 12 | _ => 13
def trR : Nat → Nat
  | 0 => 3 | 1 => 7 | _ => 11
def knR : Nat → Nat
  | 0 => 6 | 1 => 10 | _ => 14
def cAl (c : CS) (l : Nat) : ab_E := .inr (0, [.int (c.1 (40 + l)), c.2.2.2 l, .int (c.1 (30 + l))])
def cTr (c : CS) (t : Nat) : ab_E := .inr (11, [.ref (alR (2 * t)), .ref (alR (2 * t + 1)), .ref (knR t), .int (c.1 (10 + t)), .int (c.1 (20 + t))])
def cKn (c : CS) (t : Nat) : ab_E := .inl (0, 5, .inl (c.2.1 t))
def cSh (c : CS) (d : Nat) : ab_E := .inr (10, [.ref (27 + 2 * d), .int (c.1 (50 + d)), c.2.2.2 (10 + d), .int (c.1 (60 + d)), .int (c.1 (70 + d)), .int (c.1 (80 + d))])
def cNu (c : CS) (d : Nat) : ab_E := .inl (0, 100, .inl (c.2.1 (10 + d)))
def cLo (c : CS) (j : Nat) : ab_E := .inl (1, 288, .inr (.inl (c.2.2.1 j)))
def cX (c : CS) : ab_E := .inr (12, [.ref 1, .ref 2, .ref 3, .ref 7, .ref 11, .int (c.1 0), .ref 15, .ref 16])
def cC (c : CS) : List ab_E := [cX c, .inr (0, [.int 8, .ref 18, .int 8]), .inl (3, 8, .inr (.inr (.inr (.inr sF)))), cTr c 0, cAl c 0, cAl c 1, cKn c 0, cTr c 1, cAl c 2, cAl c 3, cKn c 1, cTr c 2, cAl c 4, cAl c 5, cKn c 2, cLo c 0, cLo c 1, .inr (9, [.int 0]), .inl (2, 10, .inr (.inr (.inr (.inr kF)))), .inr (3, [.int 1]), .inr (2, [.int 2]), .inr (4, [.int 3]), .inr (6, [.int 4]), .inr (1, [.int 5]), .inr (5, [.int 6]), .inr (7, [.int 7]), cSh c 0, cNu c 0, cSh c 1, cNu c 1, cSh c 2, cNu c 2, cSh c 3, cNu c 3, cSh c 4, cNu c 4, cSh c 5, cNu c 5, cSh c 6, cNu c 6, cSh c 7, cNu c 7]
def cH (c : CS) (M D : List ab_E) : List ab_E := cC c ++ (M ++ D)
def cu1 (c : CS) (k : Nat) (x : Int32) : CS := (upd c.1 k x, c.2)
def cu2 (c : CS) (k j : Nat) (x : Int32) : CS := (c.1, fun i => if i = k then upd (c.2.1 k) j x else c.2.1 i, c.2.2)
def cf2 (c : CS) (k : Nat) (f : Nat → Int32) : CS := (c.1, fun i => if i = k then f else c.2.1 i, c.2.2)
def cu3 (c : CS) (k j : Nat) (x : Int64) : CS := (c.1, c.2.1, fun i => if i = k then vp_updL (c.2.2.1 k) j x else c.2.2.1 i, c.2.2.2)
def cu4 (c : CS) (k : Nat) (x : Value) : CS := (c.1, c.2.1, c.2.2.1, fun i => if i = k then x else c.2.2.2 i)
theorem cH_get {c : CS} {M D : List ab_E} {k : Nat} {x : ab_E} (h : (cC c)[k]? = some x) : (cH c M D)[k]? = some x := by
  unfold cH
  rw [List.getElem?_append_left (List.getElem?_eq_some_iff.mp h).1]
  exact h
theorem cH_set {c t : CS} {M D : List ab_E} {k : Nat} {x : ab_E} (hk : k < 42) (h : (cC c).set k x = cC t) : (cH c M D).set k x = cH t M D := by
  unfold cH
  rw [List.set_append_left _ _ (by show k < (cC c).length; exact hk), h]
theorem cH_len {c : CS} {M D : List ab_E} : (cH c M D).length = 42 + (M.length + D.length) := by
  unfold cH
  rw [List.length_append, List.length_append]
  rfl
theorem cD_get {c : CS} {M D : List ab_E} (hM : M.length = 1) {k : Nat} {x : ab_E} (h : D[k]? = some x) : (cH c M D)[43 + k]? = some x := by
  unfold cH
  rw [List.getElem?_append_right (by show (cC c).length ≤ 43 + k; show 42 ≤ 43 + k; omega), show 43 + k - (cC c).length = M.length + k by show 43 + k - 42 = _; omega, List.getElem?_append_right (by omega), Nat.add_sub_cancel_left]
  exact h
theorem cD_set {c : CS} {M D : List ab_E} (hM : M.length = 1) {k : Nat} {x : ab_E} : (cH c M D).set (43 + k) x = cH c M (D.set k x) := by
  unfold cH
  rw [List.set_append_right _ _ (by show 42 ≤ 43 + k; omega), show 43 + k - (cC c).length = M.length + k by show 43 + k - 42 = _; omega, List.set_append_right _ _ (by omega), Nat.add_sub_cancel_left]
theorem cD_app {c : CS} {M D : List ab_E} {x : ab_E} : cH c M D ++ [x] = cH c M (D ++ [x]) := by
  unfold cH
  rw [List.append_assoc, List.append_assoc]
theorem cD_new {c : CS} {M D : List ab_E} (hM : M.length = 1) : (cH c M D).length = 43 + D.length := by rw [cH_len, hM]; omega
theorem cH_lenE {c t : CS} {M D E : List ab_E} (h : D.length ≤ E.length) : (cH c M D).length ≤ (cH t M E).length := by rw [cH_len, cH_len]; omega
theorem cH_szE {c t : CS} {M D E : List ab_E} (h : ab_sz D ≤ ab_sz E) : ab_sz (cH c M D) ≤ ab_sz (cH t M E) := by
  have e : ∀ (c : CS) (M D : List ab_E), ab_sz (cH c M D) = ab_sz (cC c) + (ab_sz M + ab_sz D) := fun c M D => by
    unfold cH ab_sz
    rw [List.map_append, List.map_append, List.sum_append, List.sum_append]
  rw [e, e]
  have e2 : ab_sz (cC c) = ab_sz (cC t) := rfl
  omega
theorem cg_x {c : CS} {M D : List ab_E} : (cH c M D)[0]? = some (cX c) := cH_get rfl
theorem cg_ks {c : CS} {M D : List ab_E} : (cH c M D)[1]? = some (.inr (0, [.int 8, .ref 18, .int 8])) := cH_get rfl
theorem cg_sh {c : CS} {M D : List ab_E} : (cH c M D)[2]? = some (.inl (3, 8, .inr (.inr (.inr (.inr sF))))) := cH_get rfl
theorem cg_ka {c : CS} {M D : List ab_E} : (cH c M D)[18]? = some (.inl (2, 10, .inr (.inr (.inr (.inr kF))))) := cH_get rfl
theorem cg_tr0 {c : CS} {M D : List ab_E} : (cH c M D)[3]? = some (cTr c 0) := cH_get rfl
theorem cg_kn0 {c : CS} {M D : List ab_E} : (cH c M D)[6]? = some (cKn c 0) := cH_get rfl
theorem cg_tr1 {c : CS} {M D : List ab_E} : (cH c M D)[7]? = some (cTr c 1) := cH_get rfl
theorem cg_kn1 {c : CS} {M D : List ab_E} : (cH c M D)[10]? = some (cKn c 1) := cH_get rfl
theorem cg_tr2 {c : CS} {M D : List ab_E} : (cH c M D)[11]? = some (cTr c 2) := cH_get rfl
theorem cg_kn2 {c : CS} {M D : List ab_E} : (cH c M D)[14]? = some (cKn c 2) := cH_get rfl
theorem cg_lo0 {c : CS} {M D : List ab_E} : (cH c M D)[15]? = some (cLo c 0) := cH_get rfl
theorem cg_lo1 {c : CS} {M D : List ab_E} : (cH c M D)[16]? = some (cLo c 1) := cH_get rfl
theorem cg_al {c : CS} {M D : List ab_E} {l : Nat} (hl : l < 6) : (cH c M D)[alR l]? = some (cAl c l) := by
  obtain rfl | rfl | rfl | rfl | rfl | rfl : l = 0 ∨ l = 1 ∨ l = 2 ∨ l = 3 ∨ l = 4 ∨ l = 5 := by omega
  all_goals exact cH_get rfl
theorem cg_tr {c : CS} {M D : List ab_E} {t : Nat} (ht : t < 3) : (cH c M D)[trR t]? = some (cTr c t) := by
  obtain rfl | rfl | rfl : t = 0 ∨ t = 1 ∨ t = 2 := by omega
  all_goals exact cH_get rfl
theorem cg_kn {c : CS} {M D : List ab_E} {t : Nat} (ht : t < 3) : (cH c M D)[knR t]? = some (cKn c t) := by
  obtain rfl | rfl | rfl : t = 0 ∨ t = 1 ∨ t = 2 := by omega
  all_goals exact cH_get rfl
theorem cg_sd {c : CS} {M D : List ab_E} {d : Nat} (hd : d < 8) : (cH c M D)[26 + 2 * d]? = some (cSh c d) := by
  obtain rfl | rfl | rfl | rfl | rfl | rfl | rfl | rfl : d = 0 ∨ d = 1 ∨ d = 2 ∨ d = 3 ∨ d = 4 ∨ d = 5 ∨ d = 6 ∨ d = 7 := by omega
  all_goals exact cH_get rfl
theorem cg_nu {c : CS} {M D : List ab_E} {d : Nat} (hd : d < 8) : (cH c M D)[27 + 2 * d]? = some (cNu c d) := by
  obtain rfl | rfl | rfl | rfl | rfl | rfl | rfl | rfl : d = 0 ∨ d = 1 ∨ d = 2 ∨ d = 3 ∨ d = 4 ∨ d = 5 ∨ d = 6 ∨ d = 7 := by omega
  all_goals exact cH_get rfl
theorem cg_k {c : CS} {M D : List ab_E} {k : Nat} (hk : k < 8) : (cH c M D)[kR k]? = some (.inr (kC k, [.int (nI k)])) := by
  obtain rfl | rfl | rfl | rfl | rfl | rfl | rfl | rfl : k = 0 ∨ k = 1 ∨ k = 2 ∨ k = 3 ∨ k = 4 ∨ k = 5 ∨ k = 6 ∨ k = 7 := by omega
  all_goals exact cH_get rfl
theorem cs_al {c : CS} {M D : List ab_E} {l : Nat} (hl : l < 6) {v : Value} {n m : Int32} : (cH c M D).set (alR l) (.inr (0, [.int m, v, .int n])) = cH (cu4 (cu1 (cu1 c (40 + l) m) (30 + l) n) l v) M D := by
  obtain rfl | rfl | rfl | rfl | rfl | rfl : l = 0 ∨ l = 1 ∨ l = 2 ∨ l = 3 ∨ l = 4 ∨ l = 5 := by omega
  all_goals exact cH_set (by decide) rfl
theorem cs_tr {c : CS} {M D : List ab_E} {t : Nat} (ht : t < 3) {w u : Int32} : (cH c M D).set (trR t) (.inr (11, [.ref (alR (2 * t)), .ref (alR (2 * t + 1)), .ref (knR t), .int w, .int u])) = cH (cu1 (cu1 c (10 + t) w) (20 + t) u) M D := by
  obtain rfl | rfl | rfl : t = 0 ∨ t = 1 ∨ t = 2 := by omega
  all_goals exact cH_set (by decide) rfl
theorem cs_kn {c : CS} {M D : List ab_E} {t : Nat} (ht : t < 3) {j : Nat} {x : Int32} : (cH c M D).set (knR t) (.inl (0, 5, .inl (upd (c.2.1 t) j x))) = cH (cu2 c t j x) M D := by
  obtain rfl | rfl | rfl : t = 0 ∨ t = 1 ∨ t = 2 := by omega
  all_goals exact cH_set (by decide) rfl
theorem cs_sd {c : CS} {M D : List ab_E} {d : Nat} (hd : d < 8) {a f s n : Int32} {v : Value} : (cH c M D).set (26 + 2 * d) (.inr (10, [.ref (27 + 2 * d), .int a, v, .int f, .int s, .int n])) = cH (cu4 (cu1 (cu1 (cu1 (cu1 c (50 + d) a) (60 + d) f) (70 + d) s) (80 + d) n) (10 + d) v) M D := by
  obtain rfl | rfl | rfl | rfl | rfl | rfl | rfl | rfl : d = 0 ∨ d = 1 ∨ d = 2 ∨ d = 3 ∨ d = 4 ∨ d = 5 ∨ d = 6 ∨ d = 7 := by omega
  all_goals exact cH_set (by decide) rfl
theorem cs_nu {c : CS} {M D : List ab_E} {d : Nat} (hd : d < 8) {f : Nat → Int32} : (cH c M D).set (27 + 2 * d) (.inl (0, 100, .inl f)) = cH (cf2 c (10 + d) f) M D := by
  obtain rfl | rfl | rfl | rfl | rfl | rfl | rfl | rfl : d = 0 ∨ d = 1 ∨ d = 2 ∨ d = 3 ∨ d = 4 ∨ d = 5 ∨ d = 6 ∨ d = 7 := by omega
  all_goals exact cH_set (by decide) rfl
theorem cs_x {c : CS} {M D : List ab_E} {x : Int32} : (cH c M D).set 0 (.inr (12, [.ref 1, .ref 2, .ref 3, .ref 7, .ref 11, .int x, .ref 15, .ref 16])) = cH (cu1 c 0 x) M D := cH_set (by decide) rfl
theorem cs_lo0 {c : CS} {M D : List ab_E} {i : Nat} {x : Int64} : (cH c M D).set 15 (.inl (1, 288, .inr (.inl (vp_updL (c.2.2.1 0) i x)))) = cH (cu3 c 0 i x) M D := cH_set (by decide) rfl
theorem cs_lo1 {c : CS} {M D : List ab_E} {i : Nat} {x : Int64} : (cH c M D).set 16 (.inl (1, 288, .inr (.inl (vp_updL (c.2.2.1 1) i x)))) = cH (cu3 c 1 i x) M D := cH_set (by decide) rfl

