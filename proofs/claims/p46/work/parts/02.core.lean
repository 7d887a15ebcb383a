/-! An abstract machine over a heap that is a list: place k of the list stands for the cell at base + k. A static array of before is named by a float (a stand-in: the system has none). -/
abbrev ab_E : Type := (Nat × vp_A) ⊕ (Nat × List Value)
/-- the ground: classes and slots, the base, the addresses of static arrays, array classes, the state at the law's entry, the launch -/
abbrev ab_G : Type := va_G × Nat × (Nat → Nat) × (Nat → ClassId) × State × Launch
/-- a method: name, bytes, locals, what it returns; the frames and words of locals that its calls need -/
abbrev ab_M : Type := MethodName × ByteArray × Nat × Option FieldType × Nat × Nat
abbrev ab_X : Type := Program × Env × Room × State × MethodId × Array Value × List Frame × Method × Code × (State → Prop) × List ab_E
def ab_cls : List vw_C := [(RJx4a65c, TJx4a65c, 3), (RX0, TX0, 1), (RX1, TX1, 1), (RX2, TX2, 1), (RX3, TX3, 1), (RX4, TX4, 1), (RX5, TX5, 1), (RX6, TX6, 1), (RX7, TX7, 6), (RX8, TX8, 1), (RX9, TX9, 6), (RX10, TX10, 5), (RX11, TX11, 8)]
def ab_tyof : List FieldType := [.int, .long, .object "java/lang/Object", .object "WitnessesMustLie$Shelf"]
def ab_Tg : List Cond := lw_tbl.filter goodWord
/-- words that aren't kept as the others are: they stay as the tables warm -/
def ab_isN : Cond → Bool
  | .fieldLinkNest .. => true
  | .methodLinkNest .. => true
  | .castable .. => true
  | .arrayOver (.object _) => true
  | _ => false
def ab_Tn : List Cond := lw_tbl.filter ab_isN
theorem ab_nest_warm {w : Cond} (hw : ab_isN w = true) {s U : State} (hW : s.WarmedH U.vm) (h : va_Nw w s) : va_Nw w U := by
  cases w with
  | fieldLinkNest => exact va_Nw.warmF hW h
  | methodLinkNest => exact va_Nw.warmM hW h
  | castable => exact va_Nw.warmC hW h
  | arrayOver ty =>
    cases ty with
    | object C => exact va_AO.moved hW.alike h
    | _ => cases hw
  | _ => cases hw
def ab_ren (G : ab_G) : Value → Value
  | .ref k => .ref (G.2.1 + k)
  | .float j => .ref (G.2.2.1 j.toNat)
  | v => v
def ab_renA (G : ab_G) (a : vp_A) : vp_A := match a with
  | (n, .inr (.inr (.inr (.inr f)))) => (n, .inr (.inr (.inr (.inr (fun j => (f j).map (G.2.1 + ·))))))
  | x => x
def ab_renE (G : ab_G) : ab_E → va_E
  | .inl (t, a) => .inl (G.2.2.2.1 t, ab_renA G a)
  | .inr (c, fs) => .inr (c, fs.map (ab_ren G))
def ab_wld (G : ab_G) (h : List ab_E) : va_W := h.mapIdx (fun k c => (G.2.1 + k, ab_renE G c))
/-- how many slots a cell has, at most (a failure, of whose fields nothing is said, has six) -/
def ab_szE : ab_E → Nat
  | .inl (_, n, _) => n
  | .inr (c, _) => match ab_cls[c]? with
    | some r => if r.2.2 = 0 then 6 else r.2.2
    | none => 0
def ab_sz (h : List ab_E) : Nat := (h.map ab_szE).sum
def ab_A (G : ab_G) : Nat → Prop := fun q => G.2.1 ≤ q
/-- the heap stands for the list; what was before stays -/
def ab_RH (G : ab_G) (h : List ab_E) (H : Heap) : Prop := va_P G.1 ab_cls (ab_wld G h) H ∧ H.size = G.2.1 + h.length ∧ ∀ q : Nat, q < G.2.1 → H[q]? = G.2.2.2.2.1.heap[q]?
def ab_RU (G : ab_G) (h : List ab_E) (U : State) : Prop := ab_RH G h U.heap ∧ G.2.2.2.2.1.WarmedH U.vm
def ab_tys (G : ab_G) : List (ClassId × FieldType) := [(G.2.2.2.1 0, .int), (G.2.2.2.1 1, .long), (G.2.2.2.1 2, .object "java/lang/Object"), (G.2.2.2.1 3, .object "WitnessesMustLie$Shelf")]
/-- what the Statement gives of a static that holds an array -/
def ab_St (G : ab_G) (C n d : String) (j : Nat) : Prop := va_Z C n d (.ref (G.2.2.1 j)) (ab_A G) G.2.2.2.2.1 G.2.2.2.2.1.heap ∧ G.2.2.1 j < G.2.1
def ab_wv (j : Nat) : Int64 := match j with
  | 0 => -6148914691236517206
  | 1 => -3689348814741910324
  | 2 => -1085102592571150096
  | 3 => -71777214294589696
  | 4 => -281470681808896
  | _ => -4294967296
def ab_GG (G : ab_G) : Prop := va_K G.1 ab_cls (ab_tys G) G.2.2.2.2.1 ∧ G.2.2.2.2.1.heap.size = G.2.1 ∧
  ab_St G "java/util/ArrayList" "DEFAULTCAPACITY_EMPTY_ELEMENTDATA" "[Ljava/lang/Object;" 0 ∧
  (∃ cell : Cell, G.2.2.2.2.1.heap[G.2.2.1 0]? = some cell ∧ G.2.2.2.2.1.isArrayOf cell (.object "java/lang/Object") ∧ cell.slots.size.toInt32 = 0) ∧
  ab_St G "WitnessesMustLie" "WORLDS_WITH" "[J" 2 ∧
  va_T .long (G.2.2.1 2) 6 (fun j => .long (ab_wv j)) (ab_A G) G.2.2.2.2.1 G.2.2.2.2.1.heap ∧ ∀ w ∈ ab_Tn, va_Nw w G.2.2.2.2.1
def ab_Good (G : ab_G) (M : ab_M) (X : ab_X) : Prop := match X with
  | (p, e, R, s, m, args, below, meth, c, Q, h0) => p.tables.exec = Jvm.exec ∧ c.code = M.2.1 ∧ c.maxLocals = M.2.2.1 ∧ meth.sig.returnType = M.2.2.2.1 ∧ meth.locks = false ∧ s.vm.findClass M.1.cls = some m.cls ∧
    (∀ w ∈ ab_Tg, w.before args s = true) ∧ G.2.2.2.2.1.WarmedH s.vm ∧ s.heap.size = G.2.1 + h0.length ∧ (∀ q : Nat, q < G.2.1 → s.heap[q]? = G.2.2.2.2.1.heap[q]?) ∧ meth.name = M.1.name ∧ R.frames = M.2.2.2.2.1 ∧ R.locals = M.2.2.2.2.2 ∧ ab_GG G
def ab_ll (G : ab_G) (l : List (Nat × Value)) : List (Nat × Value) := l.map (fun q => (q.1, ab_ren G q.2))
/-- from here on it comes to the end that X names -/
def ab_WA (G : ab_G) (M : ab_M) (X : ab_X) (pc : Nat) (l : List (Nat × Value)) (st : List Value) (h : List ab_E) : Prop := match X with
  | (p, e, R, s, m, args, below, meth, c, Q, h0) => h.length ≤ h0.length + R.cells ∧ ab_sz h ≤ ab_sz h0 + R.slots ∧
    ∀ (ls : Array Slot) (H : Heap) (locs : List Loc), h0.length ≤ h.length → ab_sz h0 ≤ ab_sz h → lv_has ls M.2.2.1 (ab_ll G l) → ab_RH G h H → va_S (ab_A G) s.heap H locs →
      W p G.2.2.2.2.2 e R s m args below meth c H locs (h.length - h0.length) (ab_sz h - ab_sz h0) Q (F0 m pc ls (st.map (ab_ren G)))
def ab_Qc (G : ab_G) (r : Option Value) (h1 : List ab_E) : Array Value → State → Outcome → State → Prop := fun _ st oc t => oc = .returned (r.map (ab_ren G)) ∧ ab_RU G h1 t ∧ va_F (ab_A G) st t
def ab_ws (M : ab_M) : List Cond := .code M.1 M.2.1 M.2.2.1 M.2.2.2.1 :: ab_Tg
def ab_room (M : ab_M) (h h1 : List ab_E) : Room := { frames := M.2.2.2.2.1, cells := h1.length - h.length, slots := ab_sz h1 - ab_sz h, locals := M.2.2.2.2.2 }
/-- the contract: from arguments and a heap to an answer and a heap -/
def ab_CM (G : ab_G) (M : ab_M) (av : List Value) (h : List ab_E) (r : Option Value) (h1 : List ab_E) : Prop :=
  h.length ≤ h1.length ∧ ab_sz h ≤ ab_sz h1 ∧ Met G.2.2.2.2.2 M.1 (ab_ws M) (ab_room M h h1) (va_Pc (av.map (ab_ren G)) (ab_RU G h)) (ab_Qc G r h1) (h1.length - h.length) (ab_sz h1 - ab_sz h) (ab_A G)
/-- the end that a contract wants -/
def ab_Fin (G : ab_G) (M : ab_M) (X : ab_X) (r : Option Value) (h h1 : List ab_E) : Prop := match X with
  | (p, e, R, s, m, args, below, meth, c, Q, h0) => h0 = h ∧ h.length ≤ h1.length ∧ ab_sz h ≤ ab_sz h1 ∧ R = ab_room M h h1 ∧ Q = MQ below (ab_Qc G r h1) args s (h1.length - h.length) (ab_sz h1 - ab_sz h) (ab_A G)
theorem ab_nw {G : ab_G} (hG : ab_GG G) {s : State} (hal : G.2.2.2.2.1.WarmedH s.vm) {w : Cond} (hw : w ∈ ab_Tn) : va_Nw w s := ab_nest_warm (List.mem_filter.mp hw).2 hal (hG.2.2.2.2.2.2 w hw)
-- lemmas on worlds
theorem ab_wld_get {G : ab_G} {h : List ab_E} {k : Nat} {c : ab_E} (hk : h[k]? = some c) : (ab_wld G h)[k]? = some (G.2.1 + k, ab_renE G c) := by
  unfold ab_wld
  rw [List.getElem?_mapIdx, hk]
  rfl
theorem ab_wld_inv {G : ab_G} {h : List ab_E} {k : Nat} {q : Nat × va_E} (hk : (ab_wld G h)[k]? = some q) : ∃ c, h[k]? = some c ∧ q = (G.2.1 + k, ab_renE G c) := by
  unfold ab_wld at hk
  rw [List.getElem?_mapIdx] at hk
  cases hc : h[k]? with
  | none => rw [hc] at hk; cases hk
  | some c => rw [hc] at hk; exact ⟨c, rfl, (Option.some.inj hk).symm⟩
theorem ab_wld_D (G : ab_G) (h : List ab_E) : va_D (ab_A G) (ab_wld G h) := by
  refine ⟨fun i j p q hi hj hpq => ?_, fun k q hk => ?_⟩
  · obtain ⟨c, -, rfl⟩ := ab_wld_inv hi
    obtain ⟨d, -, rfl⟩ := ab_wld_inv hj
    have e : G.2.1 + i = G.2.1 + j := hpq
    omega
  · obtain ⟨c, -, rfl⟩ := ab_wld_inv hk
    exact Nat.le_add_right _ _
theorem ab_wld_set {G : ab_G} {h : List ab_E} {k : Nat} {c : ab_E} : ab_wld G (h.set k c) = (ab_wld G h).set k (G.2.1 + k, ab_renE G c) := by
  apply List.ext_getElem?
  intro i
  unfold ab_wld
  rw [List.getElem?_mapIdx, List.getElem?_set, List.getElem?_set]
  by_cases hik : k = i
  · subst hik
    rw [if_pos rfl, if_pos rfl]
    by_cases hl : k < h.length
    · simp [hl]
    · simp [hl]
  · rw [if_neg hik, if_neg hik, List.getElem?_mapIdx]
theorem ab_wld_app {G : ab_G} {h : List ab_E} {c : ab_E} : ab_wld G (h ++ [c]) = ab_wld G h ++ [(G.2.1 + h.length, ab_renE G c)] := by
  unfold ab_wld
  rw [List.mapIdx_append]
  congr 1
  simp [List.mapIdx_cons]
theorem ab_sz_app (h : List ab_E) (c : ab_E) : ab_sz (h ++ [c]) = ab_sz h + ab_szE c := by
  simp [ab_sz]
theorem ab_sz_set {h : List ab_E} {k : Nat} {c d : ab_E} (hk : h[k]? = some c) (e : ab_szE d = ab_szE c) : ab_sz (h.set k d) = ab_sz h := by
  unfold ab_sz
  induction h generalizing k with
  | nil => rfl
  | cons a t ih =>
    cases k with
    | zero =>
      rw [List.getElem?_cons_zero] at hk
      cases hk
      simp [e]
    | succ k =>
      rw [List.getElem?_cons_succ] at hk
      rw [List.set_cons_succ, List.map_cons, List.map_cons, List.sum_cons, List.sum_cons, ih hk]
theorem ab_ren_cat (G : ab_G) (v : Value) : (ab_ren G v).category = v.category := by cases v <;> rfl
theorem ab_args (G : ab_G) : ∀ (i : Nat) (vs : List Value), lv_args i (vs.map (ab_ren G)) = ab_ll G (lv_args i vs)
  | _, [] => rfl
  | i, v :: vs => by
    show (i, ab_ren G v) :: lv_args (if (ab_ren G v).category = 2 then i + 2 else i + 1) (vs.map (ab_ren G)) = (i, ab_ren G v) :: ab_ll G (lv_args (if v.category = 2 then i + 2 else i + 1) vs)
    rw [ab_ren_cat, ab_args G _ vs]
theorem ab_slen (G : ab_G) (vs : List Value) : (lg_sl (vs.map (ab_ren G))).length = (lg_sl vs).length := by
  unfold lg_sl
  induction vs with
  | nil => rfl
  | cons v t ih =>
    rw [List.map_cons, List.flatMap_cons, List.flatMap_cons, List.length_append, List.length_append, ih, ab_ren_cat]
    by_cases h : v.category = 2
    · rw [if_pos h, if_pos h]; rfl
    · rw [if_neg h, if_neg h]; rfl
/-- storing one word's value -/
def ab_st1 (l : List (Nat × Value)) (i : Nat) (v : Value) : List (Nat × Value) := (i, v) :: l.filter (fun q => !(q.1 == i) && !(q.1 + 1 == i && q.2.category == 2))
def ab_st2 (l : List (Nat × Value)) (i : Nat) (v : Value) : List (Nat × Value) := (i, v) :: l.filter (fun q => !(q.1 == i) && (!(q.1 == i + 1) && !(q.1 + 1 == i && q.2.category == 2)))
theorem ab_ll_filter (G : ab_G) (f : Nat → Nat → Bool) (l : List (Nat × Value)) : (ab_ll G l).filter (fun q => f q.1 q.2.category) = ab_ll G (l.filter (fun q => f q.1 q.2.category)) := by
  unfold ab_ll
  rw [List.filter_map]
  congr 1
  apply List.filter_congr
  intro q _
  show f q.1 (ab_ren G q.2).category = _
  rw [ab_ren_cat]
theorem ab_ll_st1 (G : ab_G) (l : List (Nat × Value)) (i : Nat) (v : Value) : (i, ab_ren G v) :: (ab_ll G l).filter (fun q => !(q.1 == i) && !(q.1 + 1 == i && q.2.category == 2)) = ab_ll G (ab_st1 l i v) :=
  congrArg (List.cons (i, ab_ren G v)) (ab_ll_filter G (fun a b => !(a == i) && !(a + 1 == i && b == 2)) l)
theorem ab_ll_st2 (G : ab_G) (l : List (Nat × Value)) (i : Nat) (v : Value) : (i, ab_ren G v) :: (ab_ll G l).filter (fun q => !(q.1 == i) && (!(q.1 == i + 1) && !(q.1 + 1 == i && q.2.category == 2))) = ab_ll G (ab_st2 l i v) :=
  congrArg (List.cons (i, ab_ren G v)) (ab_ll_filter G (fun a b => !(a == i) && (!(a == i + 1) && !(a + 1 == i && b == 2))) l)
theorem ab_lat {G : ab_G} {ls : Array Slot} {n : Nat} {l : List (Nat × Value)} (h : lv_has ls n (ab_ll G l)) {i : Nat} {v : Value} (hm : (i, v) ∈ l) : ls[i]? = some (.val (ab_ren G v)) :=
  h.2.2 (i, ab_ren G v) (List.mem_map.mpr ⟨(i, v), hm, rfl⟩)
/-- a contract by its walk -/
theorem ab_meth {G : ab_G} {M : ab_M} {av : List Value} {h h1 : List ab_E} {r : Option Value} {l0 : List (Nat × Value)} (hG : ab_GG G) (hy : plainName M.1.cls = true) (hl0 : lv_args 0 av = l0) (hn : (lg_sl av).length ≤ M.2.2.1) (hle : h.length ≤ h1.length) (hsz : ab_sz h ≤ ab_sz h1)
    (k : ∀ X, ab_Good G M X → ab_Fin G M X r h h1 → ab_WA G M X 0 l0 [] h) : ab_CM G M av h r h1 := by
  refine ⟨hle, hsz, Met.ofW (cc := M.2.1) (maxL := M.2.2.1) (ret := M.2.2.2.1) hy rfl ?_⟩
  intro p e s m args below meth c s₁ B hml hv
  obtain ⟨rfl, hRH, hAl⟩ := hv
  have hts : ∀ w ∈ ab_ws M, w.before _ s = true := atoms_spec (ws := ab_ws M) B.pre
  have hown : s.vm.findClass M.1.cls = some m.cls := findClass_of_methodNamed B.named
  have kk := k (p, e, ab_room M h h1, s, m, (av.map (ab_ren G)).toArray, below, meth, c, MQ below (ab_Qc G r h1) (av.map (ab_ren G)).toArray s (h1.length - h.length) (ab_sz h1 - ab_sz h) (ab_A G), h)
    ⟨B.exec, B.bytes, hml, B.returns, B.notSynchronized, hown, fun w hw => hts w (List.mem_cons_of_mem _ hw), hAl, hRH.2.1, hRH.2.2, (name_of_methodNamed B.named B.method).1, rfl, rfl, hG⟩ ⟨rfl, hle, hsz, rfl, rfl⟩
  have hl := lv_entry (av.map (ab_ren G)) (n := M.2.2.1) (by rw [ab_slen]; exact hn)
  rw [ab_args, hl0] at hl
  rw [lg_entry_eq]
  have w := kk.2.2 _ s.heap [] (Nat.le_refl _) (Nat.le_refl _) hl hRH va_S.rf
  rw [Nat.sub_self, Nat.sub_self] at w
  exact w
