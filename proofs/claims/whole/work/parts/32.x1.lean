/-! failures over the abstract machine -/
/-- what the Statement gives: no traces, Throwable's two statics, the texts, a pair of classes that isn't castable -/
def ab_GX (G : ab_G) : Prop := G.2.2.2.2.2.stackTraces = false ∧ vx_Zq Bundle.tN "UNASSIGNED_STACK" Bundle.steD (ab_A G) G.2.2.2.2.1 G.2.2.2.2.1.heap ∧ vx_Zq Bundle.tN "SUPPRESSED_SENTINEL" Bundle.listD (ab_A G) G.2.2.2.2.1 G.2.2.2.2.1.heap ∧
  (∃ a, vk_R "WitnessesMustLie$Says" 29 "a failure" a G.2.2.2.2.1) ∧ (∃ a, vk_R "WitnessesMustLie" 354 "no such shelf" a G.2.2.2.2.1) ∧ (∃ a, vk_R "WitnessesMustLie" 361 "no row" a G.2.2.2.2.1) ∧ (∃ a, vk_R "WitnessesMustLie" 367 "no such place" a G.2.2.2.2.1) ∧
  va_Nc "java/lang/IllegalStateException" "java/lang/IllegalArgumentException" G.2.2.2.2.1 ∧ ∀ x, Cond.declares x ∈ lw_tbl → va_Nw (.declares x) G.2.2.2.2.1
/-- a word of a throw: of the tables, or one of the four that speak of the heap -/
def ab_ow (w : Cond) : Prop := w ∈ ab_Tg ∨ (∃ X, w = .castable X X ∧ Cond.castable X X ∈ ab_Tn) ∨ (∃ x, w = .declares x ∧ Cond.declares x ∈ lw_tbl) ∨ w = .isRef (.static Bundle.tN "UNASSIGNED_STACK" Bundle.steD) ∨ w = .isRef (.static Bundle.tN "SUPPRESSED_SENTINEL" Bundle.listD) ∨ w = .laysStatic Bundle.tN "UNASSIGNED_STACK" Bundle.steD ∨ w = .laysStatic Bundle.tN "SUPPRESSED_SENTINEL" Bundle.listD
theorem ab_cons {α : Type} {P : α → Prop} {a : α} {l : List α} (h : P a) (t : ∀ w ∈ l, P w) : ∀ w ∈ a :: l, P w := List.forall_mem_cons.mpr ⟨h, t⟩
theorem ab_nil {α : Type} {P : α → Prop} : ∀ w ∈ ([] : List α), P w := fun _ h => nomatch h
theorem ow_A : ∀ w ∈ Bundle.throwableAtoms, ab_ow w := ab_cons (Or.inl tw_69) (ab_cons (Or.inl tw_989) (ab_cons (Or.inl tw_996) (ab_cons (Or.inl tv_14) (ab_cons (Or.inl tw_1000) (ab_cons (Or.inl tv_15) (ab_cons (Or.inl tw_990) (ab_cons (Or.inl tw_991) (ab_cons (Or.inl tw_80) (ab_cons (Or.inl tw_81) (ab_cons (Or.inl tw_992) (ab_cons (Or.inl tw_995) (ab_cons (Or.inl tw_999) (ab_cons (Or.inl tw_1015) (ab_cons (Or.inl tw_979) (ab_cons (Or.inl tw_1016) (ab_cons (Or.inl tw_981) (ab_cons (Or.inl tw_1017) (ab_cons (Or.inl tw_983) (ab_cons (Or.inl tw_993) (ab_cons (Or.inr (Or.inr (Or.inr (Or.inr (Or.inr (Or.inl rfl)))))) (ab_cons (Or.inl tw_994) (ab_cons (Or.inr (Or.inr (Or.inr (Or.inr (Or.inr (Or.inr rfl)))))) (ab_cons (Or.inl tw_985) (ab_nil))))))))))))))))))))))))
theorem ow_B : ∀ w ∈ Bundle.throwableSAtoms, ab_ow w := ab_cons (Or.inl tw_1012) (ab_cons (Or.inl tw_1013) (ab_cons (Or.inl tw_1014) (ab_cons (Or.inl tw_985) (ab_nil))))
theorem ow_CS : ∀ w ∈ Bundle.chainSAtoms "java/lang/IllegalStateException" ["java/lang/RuntimeException", "java/lang/Exception"], ab_ow w := ab_cons (Or.inl tw_1003) (ab_cons (Or.inl tw_1004) (ab_cons (Or.inl tw_1005) (ab_cons (Or.inl tw_1006) (ab_cons (Or.inr (Or.inr (Or.inl ⟨_, rfl, tv_7⟩))) (ab_cons (Or.inl tw_1006) (ab_cons (Or.inl tw_1007) (ab_cons (Or.inl tw_1008) (ab_cons (Or.inl tw_1009) (ab_cons (Or.inr (Or.inr (Or.inl ⟨_, rfl, tv_9⟩))) (ab_cons (Or.inl tw_1009) (ab_cons (Or.inl tw_1010) (ab_cons (Or.inl tw_1011) (ab_cons (Or.inl tw_1012) (ab_cons (Or.inr (Or.inr (Or.inl ⟨_, rfl, tv_11⟩))) (ab_nil)))))))))))))))
theorem ow_CA : ∀ w ∈ Bundle.chainSAtoms "java/lang/IllegalArgumentException" ["java/lang/RuntimeException", "java/lang/Exception"], ab_ow w := ab_cons (Or.inl tw_1057) (ab_cons (Or.inl tw_1058) (ab_cons (Or.inl tw_1059) (ab_cons (Or.inl tw_1006) (ab_cons (Or.inr (Or.inr (Or.inl ⟨_, rfl, tv_7⟩))) (ab_cons (Or.inl tw_1006) (ab_cons (Or.inl tw_1007) (ab_cons (Or.inl tw_1008) (ab_cons (Or.inl tw_1009) (ab_cons (Or.inr (Or.inr (Or.inl ⟨_, rfl, tv_9⟩))) (ab_cons (Or.inl tw_1009) (ab_cons (Or.inl tw_1010) (ab_cons (Or.inl tw_1011) (ab_cons (Or.inl tw_1012) (ab_cons (Or.inr (Or.inr (Or.inl ⟨_, rfl, tv_11⟩))) (ab_nil)))))))))))))))
theorem ow_f : ∀ w ∈ Bundle.ownAtoms "WitnessesMustLie$Says" 31 "java/lang/IllegalStateException" ["java/lang/RuntimeException", "java/lang/Exception"], ab_ow w := List.forall_mem_append.mpr ⟨List.forall_mem_append.mpr ⟨List.forall_mem_append.mpr ⟨ow_A, ow_B⟩, ow_CS⟩, ab_cons (Or.inl tw_1002) (ab_cons (Or.inl tw_974) (ab_cons (Or.inr (Or.inl ⟨_, rfl, tw_975⟩)) (ab_cons (Or.inl tw_976) (ab_cons (Or.inl tw_977) (ab_cons (Or.inl tw_978) (ab_cons (Or.inl tw_980) (ab_cons (Or.inl tw_982) (ab_cons (Or.inl tw_984) (ab_cons (Or.inr (Or.inr (Or.inr (Or.inl rfl)))) (ab_cons (Or.inr (Or.inr (Or.inr (Or.inr (Or.inl rfl))))) (ab_cons (Or.inl tw_988) (ab_cons (Or.inl tw_987) (ab_cons (Or.inl tw_986) (ab_nil))))))))))))))⟩
theorem ow_e1 : ∀ w ∈ Bundle.ownAtoms "WitnessesMustLie" 356 "java/lang/IllegalArgumentException" ["java/lang/RuntimeException", "java/lang/Exception"], ab_ow w := List.forall_mem_append.mpr ⟨List.forall_mem_append.mpr ⟨List.forall_mem_append.mpr ⟨ow_A, ow_B⟩, ow_CA⟩, ab_cons (Or.inl tw_1056) (ab_cons (Or.inl tw_1048) (ab_cons (Or.inr (Or.inl ⟨_, rfl, tw_1049⟩)) (ab_cons (Or.inl tw_1050) (ab_cons (Or.inl tw_998) (ab_cons (Or.inl tw_1051) (ab_cons (Or.inl tw_1052) (ab_cons (Or.inl tw_1053) (ab_cons (Or.inl tw_1054) (ab_cons (Or.inr (Or.inr (Or.inr (Or.inl rfl)))) (ab_cons (Or.inr (Or.inr (Or.inr (Or.inr (Or.inl rfl))))) (ab_cons (Or.inl tw_988) (ab_cons (Or.inl tw_987) (ab_cons (Or.inl tw_1055) (ab_nil))))))))))))))⟩
theorem ow_e2 : ∀ w ∈ Bundle.ownAtoms "WitnessesMustLie" 363 "java/lang/IllegalStateException" ["java/lang/RuntimeException", "java/lang/Exception"], ab_ow w := List.forall_mem_append.mpr ⟨List.forall_mem_append.mpr ⟨List.forall_mem_append.mpr ⟨ow_A, ow_B⟩, ow_CS⟩, ab_cons (Or.inl tw_1062) (ab_cons (Or.inl tw_974) (ab_cons (Or.inr (Or.inl ⟨_, rfl, tw_975⟩)) (ab_cons (Or.inl tw_976) (ab_cons (Or.inl tw_977) (ab_cons (Or.inl tw_978) (ab_cons (Or.inl tw_980) (ab_cons (Or.inl tw_982) (ab_cons (Or.inl tw_984) (ab_cons (Or.inr (Or.inr (Or.inr (Or.inl rfl)))) (ab_cons (Or.inr (Or.inr (Or.inr (Or.inr (Or.inl rfl))))) (ab_cons (Or.inl tw_988) (ab_cons (Or.inl tw_987) (ab_cons (Or.inl tw_986) (ab_nil))))))))))))))⟩
/-- 'throw new E("text")', and what lies in the new cell (follows vx_throwS) -/
theorem ab_thrS {p : Program} {l : Launch} {e : Env} {R : Room} {s : State} {m : MethodId} {args : Array Value} {below : List Frame} {meth : Method} {c : Code} {H : Heap} {locs : List Loc} {cells slots : Nat} {free : Addr → Prop} {ls : Array Slot} {rest : List Value} {Qc : Array Value → State → Outcome → State → Prop} {XC : String → State → State → Prop} {cc : ByteArray} {pc : Nat} (hexec : p.tables.exec = Jvm.exec) (hb : c.code = cc) (hl : l.stackTraces = false) {own cls text : String} {names : List String} {ik is ic mc ms sa : Nat} {A : Nat → Prop}
    (hown : s.vm.findClass own = some m.cls) (hcls : Bundle.fit cls = true) (hnames : ∀ n ∈ names, Bundle.fit n = true)
    (hk : Cond.classLink own ik cls ∈ ab_Tg) (hini : Cond.initialized cls ∈ ab_Tg) (hstr : vk_R own is text sa s) (how : ∀ w ∈ Bundle.ownAtoms own ic cls names, ab_ow w) (hts : ∀ w ∈ ab_Tg, w.before args s = true) (hnn : ∀ X, Cond.castable X X ∈ ab_Tn → va_Nw (.castable X X) s) (hnd : ∀ x, Cond.declares x ∈ lw_tbl → va_Nw (.declares x) s)
    (hU : vx_Zq Bundle.tN "UNASSIGNED_STACK" Bundle.steD A s s.heap) (hN : vx_Zq Bundle.tN "SUPPRESSED_SENTINEL" Bundle.listD A s s.heap) (hS : va_S A s.heap H locs) (hsize : ls.size = c.maxLocals)
    (d0 : decode cc pc = .ok (.new ik, 3)) (d3 : decode cc (pc + 3) = .ok (.dup, 1)) (d4 : decode cc (pc + 4) = .ok (.ldc is, 2)) (d6 : decode cc (pc + 6) = .ok (.invokespecial ic, 3)) (d9 : decode cc (pc + 9) = .ok (.athrow, 1))
    (hout : ∀ x ∈ c.exceptionTable.toList, covers x (pc + 9) = false)
    (hRframes : names.length + 3 < R.frames) (hRlocals : (rest.map fun v => v.category).sum + (13 * (names.length + 1) + 43) ≤ R.locals) (hRcells : cells + 1 ≤ R.cells) (hRslots : slots + 6 ≤ R.slots) (hlocks : meth.locks = false)
    (hx : ∀ (t : State) (ce : Cell), s.WarmedH t.vm → H.size ≤ t.heap.size → t.heap.size ≤ H.size + 1 → (∀ q : Nat, q < H.size → t.heap[q]? = H[q]?) → t.heap[H.size]? = some ce → ce.vm = .none → s.vm.findClass cls = some ce.cls → XC cls s t)
    (hf : ∀ z ∈ locs, free z.base) (hc : cells + 1 ≤ mc) (hs : slots + 6 ≤ ms) :
    W p l e R s m args below meth c H locs cells slots (vx_MQ below Qc XC args s mc ms free) (F0 m pc ls rest) := by
  intro T hT X
  have htr : e.platform.stackTraces = false := (show e.platform.stackTraces = l.stackTraces by rw [X.admits.platform]).trans hl
  have Y := vx_rebase X (R' := { frames := R.frames, locals := R.locals, cells := 1, slots := 6 }) (Nat.le_refl _) (Nat.le_refl _) hRcells hRslots
  obtain ⟨s', hA⟩ : ∃ z, z = (T.setVm s.vm).setFrames (.invoking m args :: below) := ⟨_, rfl⟩
  rw [← hA] at Y
  have hvm : s'.vm = s.vm := by rw [hA]; rfl
  have hhp : s'.heap = H := by rw [hA]; exact hT
  have hW0 : s.WarmedH s'.vm := by rw [hvm]; exact State.WarmedH.refl s
  have hk' : (Cond.classLink own ik cls).before args s' = true := word_at hW0 (good_of_word (List.mem_filter.mp hk).2) (hts _ hk)
  have hini' : (Cond.initialized cls).before args s' = true := word_at hW0 (good_of_word (List.mem_filter.mp hini).2) (hts _ hini)
  have hU' : vx_Zq Bundle.tN "UNASSIGNED_STACK" Bundle.steD A s' s'.heap := by rw [hhp]; exact vx_Zq.moved hW0.alike (hU.kept hS.2.1)
  have hN' : vx_Zq Bundle.tN "SUPPRESSED_SENTINEL" Bundle.listD A s' s'.heap := by rw [hhp]; exact vx_Zq.moved hW0.alike (hN.kept hS.2.1)
  have h : ∀ w ∈ Bundle.ownAtoms own ic cls names, w.before args s' = true := fun w hw => by
    rcases how w hw with h1 | ⟨X9, rfl, h1⟩ | ⟨x9, rfl, h1⟩ | rfl | rfl | rfl | rfl
    · exact word_at hW0 (good_of_word (List.mem_filter.mp h1).2) (hts w h1)
    · exact va_tabs rfl hvm.symm (va_Nw.use (A := args) rfl (hnn X9 h1))
    · exact va_tabs rfl hvm.symm (va_Nw.use (A := args) rfl (hnd x9 h1))
    · exact vx_isRefq hU'.1
    · exact vx_isRefq hN'.1
    · exact hU'.2.word
    · exact hN'.2.word
  have hown' : s'.vm.findClass own = some m.cls := by rw [hvm]; exact hown
  have hins : (Cond.instantiable cls 6).before args s' = true := h _ (by simp [Bundle.ownAtoms])
  obtain ⟨vm₁, cX, kX, hfX, hkX, -, -, X₁, st1⟩ := Y.newCold hexec (own := own) (C := cls) (index := ik) (n := 6) hown' hk' hins hini'
    (g := F0 m pc ls rest) rfl (by rw [hb]; exact d0) (Nat.le_refl _) (Nat.le_refl _)
  generalize hT1 : (T.setVm vm₁).pushCell { cls := cX, slots := kX.instanceTypes.map defaultValue, vm := .none } = T1 at X₁ st1
  have hcat : (Value.ref T.heap.size).category = 1 := rfl
  have hcellA : T1.heap[T.heap.size]? = some (freshCell cX kX) := by rw [← hT1]; exact State.heap_pushCell_size _ _
  have d3' : decode c.code (pc + 3) = .ok (.dup, 1) := by rw [hb]; exact d3
  have d4' : decode c.code (pc + 4) = .ok (.ldc is, 2) := by rw [hb]; exact d4
  have hstr' : vk_R own is text sa s' := vk_R.warm hW0 hstr
  obtain ⟨U, hsteps, hrun, hend, hW, hsame, ce, hce, hO⟩ := X₁.ctorThrowS hexec htr (own := own) (cls := cls) (names := names) (ic := ic) hown' hcls hnames h (fun x hx => nomatch hx) hfX hkX hcellA (by rw [hhp, hT]; exact Nat.le_refl _) (msg := .ref sa) rfl
    (g := { method := m, pc := pc + 6, locals := ls, stack := .ref sa :: .ref T.heap.size :: .ref T.heap.size :: rest, locked := none }) rfl hsize rfl rfl (rest := rest) rfl
    (by rw [hb]; exact d6) (by rw [hb]; exact d9) hout hRframes (by simp only [List.map_cons, List.sum_cons, hcat]; omega) hlocks
  obtain ⟨f1, f2⟩ := vx_frame hsame
  have f3 := hsame.2.2.1
  rw [hhp] at f1 f2 f3
  have hWs : s.WarmedH U.vm := State.WarmedH.trans hW0 hW
  have hcl : s.vm.findClass cls = some ce.cls := by
    have h9 := hO.cls
    rw [hvm] at h9
    exact h9
  have hall : s.sameButNew ({ U with vm := s.vm } : State) locs mc ms := by
    subst hA
    obtain ⟨e1, e2⟩ := hsame
    rw [State.setFrames_setFrames] at e1
    have h2 : (T.setVm s.vm).sameButNew ({ U with vm := s.vm } : State) [] (0 + 1) (0 + 6) := ⟨e1, e2⟩
    have h3 := X.same.trans h2
    rw [List.append_nil] at h3
    exact h3.mono hc hs
  have hce9 : U.heap[H.size]? = some ce := by rw [← hT]; exact hce
  have f3' : U.heap.size ≤ H.size + 1 := by
    have e9 : ({ U with vm := s'.vm } : State).heap.size = U.heap.size := rfl
    omega
  refine ⟨U, ?_, .threw T.heap.size, hrun, hend, Or.inr ⟨T.heap.size, rfl, cls, ce, locs, hx U ce hWs f1 f3' (fun q hq => f2 q hq (fun z hz => nomatch hz)) hce9 hO.vm hcl, hce, hO.vm, hcl, hWs, hall, hf⟩⟩
  refine st1 _ ?_
  show Steps p.tables e below (T1.setTop { method := m, pc := pc + 3, locals := ls, stack := .ref T.heap.size :: rest, locked := none }) _
  jvm_step X₁.here [X₁.here.top, hexec, d3', Value.category]
  exact X₁.ldcString hexec (own := own) (text := text) (index := is) (a := sa) hown' hstr'.1 hstr'.2
    (g := { method := m, pc := pc + 4, locals := ls, stack := .ref T.heap.size :: .ref T.heap.size :: rest, locked := none }) rfl d4' _ hsteps
/-- 'throw new E("text")', and what lies in the new cell (follows vx_throwS) -/
theorem ab_thrSW {p : Program} {l : Launch} {e : Env} {R : Room} {s : State} {m : MethodId} {args : Array Value} {below : List Frame} {meth : Method} {c : Code} {H : Heap} {locs : List Loc} {cells slots : Nat} {free : Addr → Prop} {ls : Array Slot} {rest : List Value} {Qc : Array Value → State → Outcome → State → Prop} {XC : String → State → State → Prop} {cc : ByteArray} {pc : Nat} (hexec : p.tables.exec = Jvm.exec) (hb : c.code = cc) (hl : l.stackTraces = false) {own cls text : String} {names : List String} {ik is ic mc ms sa : Nat} {A : Nat → Prop}
    (hown : s.vm.findClass own = some m.cls) (hcls : Bundle.fit cls = true) (hnames : ∀ n ∈ names, Bundle.fit n = true)
    (hk : Cond.classLink own ik cls ∈ ab_Tg) (hini : Cond.initialized cls ∈ ab_Tg) (hstr : vk_R own is text sa s) (how : ∀ w ∈ Bundle.ownAtoms own ic cls names, ab_ow w) (hts : ∀ w ∈ ab_Tg, w.before args s = true) (hnn : ∀ X, Cond.castable X X ∈ ab_Tn → va_Nw (.castable X X) s) (hnd : ∀ x, Cond.declares x ∈ lw_tbl → va_Nw (.declares x) s)
    (hU : vx_Zq Bundle.tN "UNASSIGNED_STACK" Bundle.steD A s s.heap) (hN : vx_Zq Bundle.tN "SUPPRESSED_SENTINEL" Bundle.listD A s s.heap) (hS : va_S A s.heap H locs) (hsize : ls.size = c.maxLocals)
    (d0 : decode cc pc = .ok (.new ik, 3)) (d3 : decode cc (pc + 3) = .ok (.dup, 1)) (d4 : decode cc (pc + 4) = .ok (.ldc_w is, 3)) (d6 : decode cc (pc + 7) = .ok (.invokespecial ic, 3)) (d9 : decode cc (pc + 10) = .ok (.athrow, 1))
    (hout : ∀ x ∈ c.exceptionTable.toList, covers x (pc + 10) = false)
    (hRframes : names.length + 3 < R.frames) (hRlocals : (rest.map fun v => v.category).sum + (13 * (names.length + 1) + 43) ≤ R.locals) (hRcells : cells + 1 ≤ R.cells) (hRslots : slots + 6 ≤ R.slots) (hlocks : meth.locks = false)
    (hx : ∀ (t : State) (ce : Cell), s.WarmedH t.vm → H.size ≤ t.heap.size → t.heap.size ≤ H.size + 1 → (∀ q : Nat, q < H.size → t.heap[q]? = H[q]?) → t.heap[H.size]? = some ce → ce.vm = .none → s.vm.findClass cls = some ce.cls → XC cls s t)
    (hf : ∀ z ∈ locs, free z.base) (hc : cells + 1 ≤ mc) (hs : slots + 6 ≤ ms) :
    W p l e R s m args below meth c H locs cells slots (vx_MQ below Qc XC args s mc ms free) (F0 m pc ls rest) := by
  intro T hT X
  have htr : e.platform.stackTraces = false := (show e.platform.stackTraces = l.stackTraces by rw [X.admits.platform]).trans hl
  have Y := vx_rebase X (R' := { frames := R.frames, locals := R.locals, cells := 1, slots := 6 }) (Nat.le_refl _) (Nat.le_refl _) hRcells hRslots
  obtain ⟨s', hA⟩ : ∃ z, z = (T.setVm s.vm).setFrames (.invoking m args :: below) := ⟨_, rfl⟩
  rw [← hA] at Y
  have hvm : s'.vm = s.vm := by rw [hA]; rfl
  have hhp : s'.heap = H := by rw [hA]; exact hT
  have hW0 : s.WarmedH s'.vm := by rw [hvm]; exact State.WarmedH.refl s
  have hk' : (Cond.classLink own ik cls).before args s' = true := word_at hW0 (good_of_word (List.mem_filter.mp hk).2) (hts _ hk)
  have hini' : (Cond.initialized cls).before args s' = true := word_at hW0 (good_of_word (List.mem_filter.mp hini).2) (hts _ hini)
  have hU' : vx_Zq Bundle.tN "UNASSIGNED_STACK" Bundle.steD A s' s'.heap := by rw [hhp]; exact vx_Zq.moved hW0.alike (hU.kept hS.2.1)
  have hN' : vx_Zq Bundle.tN "SUPPRESSED_SENTINEL" Bundle.listD A s' s'.heap := by rw [hhp]; exact vx_Zq.moved hW0.alike (hN.kept hS.2.1)
  have h : ∀ w ∈ Bundle.ownAtoms own ic cls names, w.before args s' = true := fun w hw => by
    rcases how w hw with h1 | ⟨X9, rfl, h1⟩ | ⟨x9, rfl, h1⟩ | rfl | rfl | rfl | rfl
    · exact word_at hW0 (good_of_word (List.mem_filter.mp h1).2) (hts w h1)
    · exact va_tabs rfl hvm.symm (va_Nw.use (A := args) rfl (hnn X9 h1))
    · exact va_tabs rfl hvm.symm (va_Nw.use (A := args) rfl (hnd x9 h1))
    · exact vx_isRefq hU'.1
    · exact vx_isRefq hN'.1
    · exact hU'.2.word
    · exact hN'.2.word
  have hown' : s'.vm.findClass own = some m.cls := by rw [hvm]; exact hown
  have hins : (Cond.instantiable cls 6).before args s' = true := h _ (by simp [Bundle.ownAtoms])
  obtain ⟨vm₁, cX, kX, hfX, hkX, -, -, X₁, st1⟩ := Y.newCold hexec (own := own) (C := cls) (index := ik) (n := 6) hown' hk' hins hini'
    (g := F0 m pc ls rest) rfl (by rw [hb]; exact d0) (Nat.le_refl _) (Nat.le_refl _)
  generalize hT1 : (T.setVm vm₁).pushCell { cls := cX, slots := kX.instanceTypes.map defaultValue, vm := .none } = T1 at X₁ st1
  have hcat : (Value.ref T.heap.size).category = 1 := rfl
  have hcellA : T1.heap[T.heap.size]? = some (freshCell cX kX) := by rw [← hT1]; exact State.heap_pushCell_size _ _
  have d3' : decode c.code (pc + 3) = .ok (.dup, 1) := by rw [hb]; exact d3
  have d4' : decode c.code (pc + 4) = .ok (.ldc_w is, 3) := by rw [hb]; exact d4
  have hstr' : vk_R own is text sa s' := vk_R.warm hW0 hstr
  obtain ⟨U, hsteps, hrun, hend, hW, hsame, ce, hce, hO⟩ := X₁.ctorThrowS hexec htr (own := own) (cls := cls) (names := names) (ic := ic) hown' hcls hnames h (fun x hx => nomatch hx) hfX hkX hcellA (by rw [hhp, hT]; exact Nat.le_refl _) (msg := .ref sa) rfl
    (g := { method := m, pc := pc + 7, locals := ls, stack := .ref sa :: .ref T.heap.size :: .ref T.heap.size :: rest, locked := none }) rfl hsize rfl rfl (rest := rest) rfl
    (by rw [hb]; exact d6) (by rw [hb]; exact d9) hout hRframes (by simp only [List.map_cons, List.sum_cons, hcat]; omega) hlocks
  obtain ⟨f1, f2⟩ := vx_frame hsame
  have f3 := hsame.2.2.1
  rw [hhp] at f1 f2 f3
  have hWs : s.WarmedH U.vm := State.WarmedH.trans hW0 hW
  have hcl : s.vm.findClass cls = some ce.cls := by
    have h9 := hO.cls
    rw [hvm] at h9
    exact h9
  have hall : s.sameButNew ({ U with vm := s.vm } : State) locs mc ms := by
    subst hA
    obtain ⟨e1, e2⟩ := hsame
    rw [State.setFrames_setFrames] at e1
    have h2 : (T.setVm s.vm).sameButNew ({ U with vm := s.vm } : State) [] (0 + 1) (0 + 6) := ⟨e1, e2⟩
    have h3 := X.same.trans h2
    rw [List.append_nil] at h3
    exact h3.mono hc hs
  have hce9 : U.heap[H.size]? = some ce := by rw [← hT]; exact hce
  have f3' : U.heap.size ≤ H.size + 1 := by
    have e9 : ({ U with vm := s'.vm } : State).heap.size = U.heap.size := rfl
    omega
  refine ⟨U, ?_, .threw T.heap.size, hrun, hend, Or.inr ⟨T.heap.size, rfl, cls, ce, locs, hx U ce hWs f1 f3' (fun q hq => f2 q hq (fun z hz => nomatch hz)) hce9 hO.vm hcl, hce, hO.vm, hcl, hWs, hall, hf⟩⟩
  refine st1 _ ?_
  show Steps p.tables e below (T1.setTop { method := m, pc := pc + 3, locals := ls, stack := .ref T.heap.size :: rest, locked := none }) _
  jvm_step X₁.here [X₁.here.top, hexec, d3', Value.category]
  exact X₁.ldcStringW hexec (own := own) (text := text) (index := is) (a := sa) hown' hstr'.1 hstr'.2
    (g := { method := m, pc := pc + 4, locals := ls, stack := .ref T.heap.size :: .ref T.heap.size :: rest, locked := none }) rfl d4' _ hsteps
/-- the table of a body -/
def ab_Tab (X : ab_X) (tbl : List ExceptionTableEntry) : Prop := match X with
  | (p, e, R, s, m, args, below, meth, c, Q, h0) => c.exceptionTable.toList = tbl
/-- the contract: it throws E, and the heap behind it -/
def ab_CT (G : ab_G) (M : ab_M) (av : List Value) (h : List ab_E) (E : String) (h1 : List ab_E) : Prop :=
  h.length ≤ h1.length ∧ ab_sz h ≤ ab_sz h1 ∧ vx_Met G.2.2.2.2.2 M.1 (ab_ws M) (ab_room M h h1) (va_Pc (av.map (ab_ren G)) (ab_RU G h)) (fun _ _ _ _ => False) (fun E2 st t => E2 = E ∧ ab_RU G h1 t ∧ va_F (ab_A G) st t) (h1.length - h.length) (ab_sz h1 - ab_sz h) (ab_A G)
def ab_FinT (G : ab_G) (M : ab_M) (X : ab_X) (E : String) (h h1 : List ab_E) : Prop := match X with
  | (p, e, R, s, m, args, below, meth, c, Q, h0) => h0 = h ∧ h.length ≤ h1.length ∧ ab_sz h ≤ ab_sz h1 ∧ R = ab_room M h h1 ∧ Q = vx_MQ below (fun _ _ _ _ => False) (fun E2 st t => E2 = E ∧ ab_RU G h1 t ∧ va_F (ab_A G) st t) args s (h1.length - h.length) (ab_sz h1 - ab_sz h) (ab_A G)
theorem ab_methT {G : ab_G} {M : ab_M} {av : List Value} {h h1 : List ab_E} {E : String} {l0 : List (Nat × Value)} (hG : ab_GG G) (hy : plainName M.1.cls = true) (hl0 : lv_args 0 av = l0) (hn : (lg_sl av).length ≤ M.2.2.1) (hle : h.length ≤ h1.length) (hsz : ab_sz h ≤ ab_sz h1)
    (k : ∀ X, ab_Good G M X → ab_Tab X [] → ab_FinT G M X E h h1 → ab_WA G M X 0 l0 [] h) : ab_CT G M av h E h1 := by
  refine ⟨hle, hsz, vx_ofW (cc := M.2.1) (maxL := M.2.2.1) (ret := M.2.2.2.1) hy rfl ?_⟩
  intro p e s m args below meth c s₁ B hml ht hv
  obtain ⟨rfl, hRH, hAl⟩ := hv
  have hts : ∀ w ∈ ab_ws M, w.before _ s = true := atoms_spec (ws := ab_ws M) B.pre
  have hown : s.vm.findClass M.1.cls = some m.cls := findClass_of_methodNamed B.named
  have kk := k (p, e, ab_room M h h1, s, m, (av.map (ab_ren G)).toArray, below, meth, c, vx_MQ below (fun _ _ _ _ => False) (fun E2 st t => E2 = E ∧ ab_RU G h1 t ∧ va_F (ab_A G) st t) (av.map (ab_ren G)).toArray s (h1.length - h.length) (ab_sz h1 - ab_sz h) (ab_A G), h)
    ⟨B.exec, B.bytes, hml, B.returns, B.notSynchronized, hown, fun w hw => hts w (List.mem_cons_of_mem _ hw), hAl, hRH.2.1, hRH.2.2, (name_of_methodNamed B.named B.method).1, rfl, rfl, hG⟩ (List.eq_nil_iff_forall_not_mem.mpr ht) ⟨rfl, hle, hsz, rfl, rfl⟩
  have hl := lv_entry (av.map (ab_ren G)) (n := M.2.2.1) (by rw [ab_slen]; exact hn)
  rw [ab_args, hl0] at hl
  rw [lg_entry_eq]
  have w := kk.2.2 _ s.heap [] (Nat.le_refl _) (Nat.le_refl _) hl hRH va_S.rf
  rw [Nat.sub_self, Nat.sub_self] at w
  exact w
theorem ab_throwS {G : ab_G} {M : ab_M} {X : ab_X} {pc : Nat} {l : List (Nat × Value)} {st : List Value} {h : List ab_E} (hX : ab_Good G M X) (hT : ab_Tab X []) (hGX : ab_GX G) {cls text : String} {T0 : u_T} {names : List String} {ik is ic ci : Nat} (hF : ab_FinT G M X cls h (h ++ [.inr (ci, [])]))
    (hci : ab_cls[ci]? = some (cls, T0, 0)) (hcls : Bundle.fit cls = true) (hnames : ∀ n ∈ names, Bundle.fit n = true) (hk : Cond.classLink M.1.cls ik cls ∈ ab_Tg) (hini : Cond.initialized cls ∈ ab_Tg) (hstr : ∃ a, vk_R M.1.cls is text a G.2.2.2.2.1) (how : ∀ w ∈ Bundle.ownAtoms M.1.cls ic cls names, ab_ow w)
    (d0 : decode M.2.1 pc = .ok (.new ik, 3)) (d3 : decode M.2.1 (pc + 3) = .ok (.dup, 1)) (d4 : decode M.2.1 (pc + 4) = .ok (.ldc is, 2)) (d6 : decode M.2.1 (pc + 6) = .ok (.invokespecial ic, 3)) (d9 : decode M.2.1 (pc + 9) = .ok (.athrow, 1))
    (hfr : names.length + 3 < M.2.2.2.2.1) (hlo : (st.map Value.category).sum + (13 * (names.length + 1) + 43) ≤ M.2.2.2.2.2) : ab_WA G M X pc l st h := by
  obtain ⟨p, e, R, s, m, args, below, meth, c, Q, h0⟩ := X
  obtain ⟨hx, hb, hml, hr, hlk, hown, hts, hal, hsz, hkp, hnm, hrf, hrl, hG⟩ := hX
  obtain ⟨rfl, hle, hlz, rfl, rfl⟩ := hF
  obtain ⟨sa, hstr⟩ := hstr
  have e1 : (h0 ++ [(.inr (ci, []) : ab_E)]).length = h0.length + 1 := by simp
  have e2 : ab_sz (h0 ++ [.inr (ci, [])]) = ab_sz h0 + 6 := by rw [ab_sz_app]; simp [ab_szE, hci]
  refine ⟨Nat.le_add_right _ _, Nat.le_add_right _ _, fun ls H locs g1 g2 hl hR hS => ?_⟩
  have hU : vx_Zq Bundle.tN "UNASSIGNED_STACK" Bundle.steD (ab_A G) s s.heap := (vx_Zq.moved hal.alike hGX.2.1).kept (fun q _ hq => hkp q (Nat.not_le.mp hq))
  have hN : vx_Zq Bundle.tN "SUPPRESSED_SENTINEL" Bundle.listD (ab_A G) s s.heap := (vx_Zq.moved hal.alike hGX.2.2.1).kept (fun q _ hq => hkp q (Nat.not_le.mp hq))
  have hrc : (ab_room M h0 (h0 ++ [(.inr (ci, []) : ab_E)])).cells = 1 := by show (h0 ++ [_]).length - h0.length = 1; omega
  have hrs : (ab_room M h0 (h0 ++ [(.inr (ci, []) : ab_E)])).slots = 6 := by show ab_sz (h0 ++ [_]) - ab_sz h0 = 6; omega
  refine ab_thrS (A := ab_A G) hx hb hGX.1 hown hcls hnames hk hini (vk_R.warm hal hstr) how hts (fun X9 h9 => ab_nw hG hal h9) (fun x9 h9 => va_Nw.warmD hal (hGX.2.2.2.2.2.2.2.2 x9 h9)) hU hN hS (hl.1.trans hml.symm) d0 d3 d4 d6 d9 (fun x hx9 => by rw [show c.exceptionTable.toList = [] from hT] at hx9; cases hx9)
    (by rw [show (ab_room M h0 (h0 ++ [(.inr (ci, []) : ab_E)])).frames = M.2.2.2.2.1 from rfl]; exact hfr) (by rw [show (ab_room M h0 (h0 ++ [(.inr (ci, []) : ab_E)])).locals = M.2.2.2.2.2 from rfl, ab_catsum]; exact hlo) (by omega) (by omega) hlk ?_ hS.2.2 (by omega) (by omega)
  intro t ce hW f1 f2 f3 hce hcv hcl
  have hsz2 : t.heap.size = G.2.1 + (h0 ++ [(.inr (ci, []) : ab_E)]).length := by
    have q1 := (Array.getElem?_eq_some_iff.mp hce).1
    have q2 := hR.2.1
    omega
  refine ⟨rfl, ⟨⟨?_, hsz2, fun q hq => ?_⟩, State.WarmedH.trans hal hW⟩, ⟨Nat.le_trans hS.1 f1, fun q h1 h2 => (f3 q (Nat.lt_of_lt_of_le h1 hS.1)).trans (hS.2.1 q h1 h2)⟩⟩
  · rw [ab_wld_app]
    intro k q hk9
    by_cases hlt : k < (ab_wld G h0).length
    · rw [List.getElem?_append_left hlt] at hk9
      have w := hR.1 k q hk9
      exact w.kept (f3 _ w.lt)
    · have hk8 := (List.getElem?_eq_some_iff.mp hk9).1
      rw [List.length_append] at hk8
      have hk7 : k = (ab_wld G h0).length := by
        have : [(G.2.1 + h0.length, ab_renE G (.inr (ci, [])))].length = 1 := rfl
        omega
      subst hk7
      rw [List.getElem?_append_right (Nat.le_refl _), Nat.sub_self] at hk9
      have e9 : q = (G.2.1 + h0.length, ab_renE G (.inr (ci, []))) := (Option.some.inj hk9).symm
      subst e9
      refine ⟨(cls, T0, 0), hci, ce, ?_, ?_, hcv, fun k hk => absurd hk (Nat.not_lt_zero _)⟩
      · show t.heap[G.2.1 + h0.length]? = some ce
        rw [← hR.2.1]
        exact hce
      · have hK := (va_K.moved hal.alike hG.1).1 ci _ hci
        exact (Option.some.inj (hK.2.1.symm.trans hcl)).symm
  · have q2 := hR.2.1
    exact (f3 q (by omega)).trans (hR.2.2 q hq)
theorem ab_throwSW {G : ab_G} {M : ab_M} {X : ab_X} {pc : Nat} {l : List (Nat × Value)} {st : List Value} {h : List ab_E} (hX : ab_Good G M X) (hT : ab_Tab X []) (hGX : ab_GX G) {cls text : String} {T0 : u_T} {names : List String} {ik is ic ci : Nat} (hF : ab_FinT G M X cls h (h ++ [.inr (ci, [])]))
    (hci : ab_cls[ci]? = some (cls, T0, 0)) (hcls : Bundle.fit cls = true) (hnames : ∀ n ∈ names, Bundle.fit n = true) (hk : Cond.classLink M.1.cls ik cls ∈ ab_Tg) (hini : Cond.initialized cls ∈ ab_Tg) (hstr : ∃ a, vk_R M.1.cls is text a G.2.2.2.2.1) (how : ∀ w ∈ Bundle.ownAtoms M.1.cls ic cls names, ab_ow w)
    (d0 : decode M.2.1 pc = .ok (.new ik, 3)) (d3 : decode M.2.1 (pc + 3) = .ok (.dup, 1)) (d4 : decode M.2.1 (pc + 4) = .ok (.ldc_w is, 3)) (d6 : decode M.2.1 (pc + 7) = .ok (.invokespecial ic, 3)) (d9 : decode M.2.1 (pc + 10) = .ok (.athrow, 1))
    (hfr : names.length + 3 < M.2.2.2.2.1) (hlo : (st.map Value.category).sum + (13 * (names.length + 1) + 43) ≤ M.2.2.2.2.2) : ab_WA G M X pc l st h := by
  obtain ⟨p, e, R, s, m, args, below, meth, c, Q, h0⟩ := X
  obtain ⟨hx, hb, hml, hr, hlk, hown, hts, hal, hsz, hkp, hnm, hrf, hrl, hG⟩ := hX
  obtain ⟨rfl, hle, hlz, rfl, rfl⟩ := hF
  obtain ⟨sa, hstr⟩ := hstr
  have e1 : (h0 ++ [(.inr (ci, []) : ab_E)]).length = h0.length + 1 := by simp
  have e2 : ab_sz (h0 ++ [.inr (ci, [])]) = ab_sz h0 + 6 := by rw [ab_sz_app]; simp [ab_szE, hci]
  refine ⟨Nat.le_add_right _ _, Nat.le_add_right _ _, fun ls H locs g1 g2 hl hR hS => ?_⟩
  have hU : vx_Zq Bundle.tN "UNASSIGNED_STACK" Bundle.steD (ab_A G) s s.heap := (vx_Zq.moved hal.alike hGX.2.1).kept (fun q _ hq => hkp q (Nat.not_le.mp hq))
  have hN : vx_Zq Bundle.tN "SUPPRESSED_SENTINEL" Bundle.listD (ab_A G) s s.heap := (vx_Zq.moved hal.alike hGX.2.2.1).kept (fun q _ hq => hkp q (Nat.not_le.mp hq))
  have hrc : (ab_room M h0 (h0 ++ [(.inr (ci, []) : ab_E)])).cells = 1 := by show (h0 ++ [_]).length - h0.length = 1; omega
  have hrs : (ab_room M h0 (h0 ++ [(.inr (ci, []) : ab_E)])).slots = 6 := by show ab_sz (h0 ++ [_]) - ab_sz h0 = 6; omega
  refine ab_thrSW (A := ab_A G) hx hb hGX.1 hown hcls hnames hk hini (vk_R.warm hal hstr) how hts (fun X9 h9 => ab_nw hG hal h9) (fun x9 h9 => va_Nw.warmD hal (hGX.2.2.2.2.2.2.2.2 x9 h9)) hU hN hS (hl.1.trans hml.symm) d0 d3 d4 d6 d9 (fun x hx9 => by rw [show c.exceptionTable.toList = [] from hT] at hx9; cases hx9)
    (by rw [show (ab_room M h0 (h0 ++ [(.inr (ci, []) : ab_E)])).frames = M.2.2.2.2.1 from rfl]; exact hfr) (by rw [show (ab_room M h0 (h0 ++ [(.inr (ci, []) : ab_E)])).locals = M.2.2.2.2.2 from rfl, ab_catsum]; exact hlo) (by omega) (by omega) hlk ?_ hS.2.2 (by omega) (by omega)
  intro t ce hW f1 f2 f3 hce hcv hcl
  have hsz2 : t.heap.size = G.2.1 + (h0 ++ [(.inr (ci, []) : ab_E)]).length := by
    have q1 := (Array.getElem?_eq_some_iff.mp hce).1
    have q2 := hR.2.1
    omega
  refine ⟨rfl, ⟨⟨?_, hsz2, fun q hq => ?_⟩, State.WarmedH.trans hal hW⟩, ⟨Nat.le_trans hS.1 f1, fun q h1 h2 => (f3 q (Nat.lt_of_lt_of_le h1 hS.1)).trans (hS.2.1 q h1 h2)⟩⟩
  · rw [ab_wld_app]
    intro k q hk9
    by_cases hlt : k < (ab_wld G h0).length
    · rw [List.getElem?_append_left hlt] at hk9
      have w := hR.1 k q hk9
      exact w.kept (f3 _ w.lt)
    · have hk8 := (List.getElem?_eq_some_iff.mp hk9).1
      rw [List.length_append] at hk8
      have hk7 : k = (ab_wld G h0).length := by
        have : [(G.2.1 + h0.length, ab_renE G (.inr (ci, [])))].length = 1 := rfl
        omega
      subst hk7
      rw [List.getElem?_append_right (Nat.le_refl _), Nat.sub_self] at hk9
      have e9 : q = (G.2.1 + h0.length, ab_renE G (.inr (ci, []))) := (Option.some.inj hk9).symm
      subst e9
      refine ⟨(cls, T0, 0), hci, ce, ?_, ?_, hcv, fun k hk => absurd hk (Nat.not_lt_zero _)⟩
      · show t.heap[G.2.1 + h0.length]? = some ce
        rw [← hR.2.1]
        exact hce
      · have hK := (va_K.moved hal.alike hG.1).1 ci _ hci
        exact (Option.some.inj (hK.2.1.symm.trans hcl)).symm
  · have q2 := hR.2.1
    exact (f3 q (by omega)).trans (hR.2.2 q hq)
/-- a call of a method by its own name: words -/
def ab_sW (M : ab_M) (i ci : Nat) (Z : ab_M) (n : Nat) : Prop := ab_c0 M Z n ∧ Cond.instanceMethod Z.1 ∈ ab_Tg ∧ ∃ (C : String) (T : u_T) (N : Nat), ab_cls[ci]? = some (C, T, N) ∧ Cond.methodLink M.1.cls i Z.1 ∈ ab_Tg ∧ Cond.selects C Z.1 Z.1 ∈ ab_Tg
/-- a call that throws, caught here: on it goes behind the handler's astore -/
theorem ab_catchV {G : ab_G} {M : ab_M} {X : ab_X} {pc : Nat} {l l2 : List (Nat × Value)} {st rest av : List Value} {h h1 : List ab_E} {Z : ab_M} {i n ci b : Nat} {fs : List Value} {E : String} {tbl pre suf : List ExceptionTableEntry} {x : ExceptionTableEntry} {name : String} {j : Nat}
    (hX : ab_Good G M X) (hT : ab_Tab X tbl) (hm : decode M.2.1 pc = .ok (.invokevirtual i, 3)) (hc : h[b]? = some (.inr (ci, fs))) (hs : ab_sW M i ci Z n) (hC : ab_CT G Z (.ref b :: av) h E h1) (hav : av.length = n) (hst : st = av.reverse ++ .ref b :: rest) (hW : (rest.map Value.category).sum ≤ 8)
    (hsp : tbl = pre ++ x :: suf) (hpass : ∀ z ∈ pre, covers z pc = false ∨ (z.catchType ≠ 0 ∧ ∃ nm, Cond.classLink M.1.cls z.catchType nm ∈ ab_Tg ∧ va_Nc E nm G.2.2.2.2.1)) (hxc : covers x pc = true) (hx0 : x.catchType ≠ 0) (hlk2 : Cond.classLink M.1.cls x.catchType name ∈ ab_Tg) (hca : Cond.castable E name ∈ ab_Tn)
    (hd : decode M.2.1 x.handlerPc = .ok (.astore j, 2)) (hj : j < M.2.2.1) (hl2 : l.filter (fun q => !(q.1 == j) && !(q.1 + 1 == j && q.2.category == 2)) = l2)
    (kk : ab_WA G M X (x.handlerPc + 2) l2 [] h1) : ab_WA G M X pc l st h := by
  obtain ⟨p, e, R, s, m, args, below, meth, c, Q, h0⟩ := X
  obtain ⟨hx, hb, hml, hr, hlk, hown, hts, hal, hsz, hkp, hnm, hrf, hrl, hG⟩ := hX
  obtain ⟨⟨s1, s2, s3, s4, s5⟩, s6, C, T, N, s7, s8, s9⟩ := hs
  obtain ⟨c1, c2, hM⟩ := hC
  have b1 := kk.1
  have b2 := kk.2.1
  refine ⟨by omega, by omega, fun ls H locs g1 g2 hl hR hS => ?_⟩
  have hK := va_K.moved hal.alike hG.1
  have hG1 := ab_tg_good (ab_ws_in s1)
  have hrm : (ab_room Z h h1).frames + 1 ≤ R.frames ∧ 8 + (Z.2.2.1 + 11) + (ab_room Z h h1).locals ≤ R.locals := ⟨by rw [hrf]; exact s4, by rw [hrl]; exact s5⟩
  have hstk : (F0 m pc ls (st.map (ab_ren G))).stack = (av.map (ab_ren G)).reverse ++ .ref (G.2.1 + b) :: rest.map (ab_ren G) := by show st.map (ab_ren G) = _; rw [hst, List.map_append, List.map_reverse]; rfl
  have hW2 : 2 * (F0 m pc ls (st.map (ab_ren G))).monitorRoom + ((rest.map (ab_ren G)).map fun v => v.category).sum ≤ 8 := lv_room (by rw [ab_catsum]; exact hW)
  have hnn : (av.map (ab_ren G)).length = n := by rw [List.length_map]; exact hav
  have hf : (h.length - h0.length) + (h1.length - h.length) ≤ R.cells ∧ (ab_sz h - ab_sz h0) + (ab_sz h1 - ab_sz h) ≤ R.slots := ⟨by omega, by omega⟩
  have he : (ab_wld G h)[b]? = some (G.2.1 + b, .inr (ci, fs.map (ab_ren G))) := ab_wld_get hc
  have hp : PreV s H C (G.2.1 + b) (va_Pc ((Value.ref b :: av).map (ab_ren G)) (ab_RU G h)) (av.map (ab_ren G)) := ⟨ab_blind G _ h, va_recv hK hR.1 s7 he, ab_pre ((Value.ref b :: av).map (ab_ren G)) hR hal⟩
  have hrun := vx_runV (bytes := Z.2.1) (maxL := Z.2.2.1) (ret := Z.2.2.2.1) (C := C) (e := e) (meth := meth) (below := below) (g := F0 m pc ls (st.map (ab_ren G))) (locs := locs) (cells := h.length - h0.length) (slots := ab_sz h - ab_sz h0) ⟨hx, hb, hml, hown, hts⟩ hM ⟨callB_of n hts hG1 rfl rfl rfl (hts _ s2) (hts _ s8) s3 hrm, hts _ s6, hts _ s9⟩ hp rfl hnn (hl.1) hstk hW2 hm hf
  intro T0 hT0 X0
  rcases hrun T0 hT0 X0 with ⟨v, st₀, t, T', L, -, -, -, -, -, hq, -⟩ | ⟨q, st₀, t, T', L, E2, ce, z0, X', hL, e1, e2, ⟨rfl, hru, hF⟩, hce, hcv, hcl, stp⟩
  · exact hq.elim
  · have hS1 : va_S (ab_A G) s.heap T'.heap (locs ++ L) := by
      obtain ⟨hz, hk⟩ := hF
      rw [z0] at hz hk
      exact ⟨Nat.le_trans hS.1 (by rw [e1]; exact hz), fun q h1 h2 => by rw [e1, hk q (Nat.lt_of_lt_of_le h1 hS.1) h2]; exact hS.2.1 q h1 h2, fun q hq => by
        rcases List.mem_append.mp hq with h | h
        · exact hS.2.2 q h
        · exact hL q h⟩
    have hR1 : ab_RH G h1 T'.heap := by rw [e1]; exact hru.1
    have hw : W p G.2.2.2.2.2 e R s m args below meth c T'.heap (locs ++ L) (h1.length - h0.length) (ab_sz h1 - ab_sz h0) Q (F0 m x.handlerPc ls [.ref q]) := by
      refine lv_astore hx hb hd hl hj rfl fun ls2 hl9 => ?_
      refine kk.2.2 ls2 T'.heap (locs ++ L) (by omega) (by omega) ⟨hl9.1, hl9.2.1, fun y hy => hl9.2.2 y (List.mem_cons_of_mem _ ?_)⟩ hR1 hS1
      rw [ab_ll_filter G (fun a b => !(a == j) && !(a + 1 == j && b == 2)) l, hl2]
      exact hy
    rw [show h1.length - h0.length = h.length - h0.length + (h1.length - h.length) by omega, show ab_sz h1 - ab_sz h0 = ab_sz h - ab_sz h0 + (ab_sz h1 - ab_sz h) by omega] at hw
    have hcatch := vx_catch (rest := rest.map (ab_ren G)) (pc := pc) (own := M.1.cls) (name := name) (ls := ls) hown pre x suf ((show c.exceptionTable.toList = tbl from hT).trans hsp)
      (fun z hz => (hpass z hz).imp id fun ⟨w0, nm, w1, w2⟩ => ⟨w0, nm, hts _ w1, va_Nc.moved hal.alike w2⟩) hxc hx0 (hts _ hlk2) (va_Nw.use rfl (ab_nw hG hal hca)) (H := T'.heap) (q := q) (by rw [e1]; exact hce) hcv hcl hw
    obtain ⟨t2, a1, b1⟩ := hcatch T' rfl X'
    exact ⟨t2, stp.trans a1, b1⟩
/-! methods with a table, that return -/
theorem ab_ofWH {l : Launch} {y : MethodName} {ws ws' : List Cond} {rm : Room} {Pc : Array Value → State → Prop} {Qc : Array Value → State → Outcome → State → Prop} {mc ms : Nat} {free : Addr → Prop} {cc : ByteArray} {maxL : Nat} {ret : Option FieldType} {hh : List (Nat × Nat × Nat × Nat)}
    (hy : plainName y.cls = true) (hw : ws = Cond.codeWith y cc maxL ret hh :: ws')
    (body : ∀ p e s m args below meth c s₁, BodyLoose p l y (headSpec ws rm) cc maxL ret e s m args below meth c s₁ → c.maxLocals = maxL → Pc args s →
      W p l e (headSpec ws rm).room s m args below meth c s.heap [] 0 0 (MQ below Qc args s mc ms free) (entryFrame m args maxL)) : Met l y ws rm Pc Qc mc ms free := by
  refine MetFree.of_bodyS (code := cc) (maxLocals := maxL) (ret := ret) hy ?_ ?_
  · intro args s m h hn
    obtain ⟨m9, meth, c, hn9, h1, h2, h3, h4, -, h5, h6, -⟩ := Cond.codeWith_spec (atoms_spec (ws := ws) h _ (by rw [hw]; exact List.mem_cons_self))
    cases hn.symm.trans hn9
    exact ⟨meth, c, h1, h2, h3, h4, h5, h6⟩
  · intro p e s m args below meth c s₁ B hml hP _
    have hh0 : s₁.heap = s.heap := by rw [B.state]; rfl
    obtain ⟨t, a1, o, b1, b2, b3⟩ := body p e s m args below meth c s₁ B hml hP s₁ hh0 (Stand.of_body B)
    exact ⟨t, o, a1, b1, b2, ⟨b3.1, b3.2⟩⟩
def ab_wsW (M : ab_M) (hh : List (Nat × Nat × Nat × Nat)) : List Cond := .codeWith M.1 M.2.1 M.2.2.1 M.2.2.2.1 hh :: ab_Tg
def ab_CW (G : ab_G) (M : ab_M) (hh : List (Nat × Nat × Nat × Nat)) (av : List Value) (h : List ab_E) (r : Option Value) (h1 : List ab_E) : Prop :=
  h.length ≤ h1.length ∧ ab_sz h ≤ ab_sz h1 ∧ Met G.2.2.2.2.2 M.1 (ab_wsW M hh) (ab_room M h h1) (va_Pc (av.map (ab_ren G)) (ab_RU G h)) (ab_Qc G r h1) (h1.length - h.length) (ab_sz h1 - ab_sz h) (ab_A G)
theorem ab_methW {G : ab_G} {M : ab_M} {hh : List (Nat × Nat × Nat × Nat)} {av : List Value} {h h1 : List ab_E} {r : Option Value} {l0 : List (Nat × Value)} (hG : ab_GG G) (hy : plainName M.1.cls = true) (hl0 : lv_args 0 av = l0) (hn : (lg_sl av).length ≤ M.2.2.1) (hle : h.length ≤ h1.length) (hsz : ab_sz h ≤ ab_sz h1)
    (k : ∀ X, ab_Good G M X → ab_Tab X (tableOf hh) → ab_Fin G M X r h h1 → ab_WA G M X 0 l0 [] h) : ab_CW G M hh av h r h1 := by
  refine ⟨hle, hsz, ab_ofWH (cc := M.2.1) (maxL := M.2.2.1) (ret := M.2.2.2.1) (hh := hh) hy rfl ?_⟩
  intro p e s m args below meth c s₁ B hml hv
  obtain ⟨rfl, hRH, hAl⟩ := hv
  have hts : ∀ w ∈ ab_wsW M hh, w.before _ s = true := atoms_spec (ws := ab_wsW M hh) B.pre
  have hown : s.vm.findClass M.1.cls = some m.cls := findClass_of_methodNamed B.named
  have kk := k (p, e, ab_room M h h1, s, m, (av.map (ab_ren G)).toArray, below, meth, c, MQ below (ab_Qc G r h1) (av.map (ab_ren G)).toArray s (h1.length - h.length) (ab_sz h1 - ab_sz h) (ab_A G), h)
    ⟨B.exec, B.bytes, hml, B.returns, B.notSynchronized, hown, fun w hw => hts w (List.mem_cons_of_mem _ hw), hAl, hRH.2.1, hRH.2.2, (name_of_methodNamed B.named B.method).1, rfl, rfl, hG⟩ (vx_table (x := M.1) B (hts _ List.mem_cons_self)) ⟨rfl, hle, hsz, rfl, rfl⟩
  have hl := lv_entry (av.map (ab_ren G)) (n := M.2.2.1) (by rw [ab_slen]; exact hn)
  rw [ab_args, hl0] at hl
  rw [lg_entry_eq]
  have w := kk.2.2 _ s.heap [] (Nat.le_refl _) (Nat.le_refl _) hl hRH va_S.rf
  rw [Nat.sub_self, Nat.sub_self] at w
  exact w
def ab_c0W (M Z : ab_M) (hh : List (Nat × Nat × Nat × Nat)) (n : Nat) : Prop := Cond.codeWith Z.1 Z.2.1 Z.2.2.1 Z.2.2.2.1 hh ∈ ab_Tg ∧ Cond.initialized Z.1.cls ∈ ab_Tg ∧ (Z.1.cls ≠ "java/lang/invoke/MethodHandle" ∧ Z.1.cls ≠ "java/lang/invoke/VarHandle" ∧ (parseMethodDescriptor Z.1.desc).map (fun d => d.parameters.length) = some n) ∧ Z.2.2.2.2.1 + 1 ≤ M.2.2.2.2.1 ∧ 8 + (Z.2.2.1 + 11) + Z.2.2.2.2.2 ≤ M.2.2.2.2.2
theorem ab_wsW_in {Z : ab_M} {hh : List (Nat × Nat × Nat × Nat)} (hc : Cond.codeWith Z.1 Z.2.1 Z.2.2.1 Z.2.2.2.1 hh ∈ ab_Tg) : ∀ w ∈ ab_wsW Z hh, w ∈ ab_Tg := fun w hw => (List.mem_cons.mp hw).elim (fun e => by rw [e]; exact hc) id
def ab_sVW (M : ab_M) (i ci : Nat) (Z : ab_M) (hh : List (Nat × Nat × Nat × Nat)) (n : Nat) : Prop := ab_c0W M Z hh n ∧ Cond.instanceMethod Z.1 ∈ ab_Tg ∧ ∃ (C : String) (T : u_T) (N : Nat), ab_cls[ci]? = some (C, T, N) ∧ Cond.methodLink M.1.cls i Z.1 ∈ ab_Tg ∧ Cond.selects C Z.1 Z.1 ∈ ab_Tg
theorem ab_sigW {Z : ab_M} {n : Nat} (s3 : (parseMethodDescriptor Z.1.desc).map (fun d => d.parameters.length) = some n) : ∀ sig, parseMethodDescriptor Z.1.desc = some sig → n = sig.parameters.length := fun sig h => by
  rw [h] at s3
  exact (Option.some.inj s3).symm
theorem ab_callVW {G : ab_G} {M : ab_M} {X : ab_X} {pc : Nat} {l : List (Nat × Value)} {st rest av : List Value} {h h1 : List ab_E} {Z : ab_M} {hh : List (Nat × Nat × Nat × Nat)} {i n ci b : Nat} {fs : List Value} {r : Option Value} (hX : ab_Good G M X) (hm : decode M.2.1 pc = .ok (.invokevirtual i, 3)) (hc : h[b]? = some (.inr (ci, fs))) (hs : ab_sVW M i ci Z hh n) (hC : ab_CW G Z hh (.ref b :: av) h r h1) (hav : av.length = n) (hst : st = av.reverse ++ .ref b :: rest) (hW : (rest.map Value.category).sum ≤ 8)
    (kk : ab_WA G M X (pc + 3) l (r.toList ++ rest) h1) : ab_WA G M X pc l st h := by
  obtain ⟨p, e, R, s, m, args, below, meth, c, Q, h0⟩ := X
  obtain ⟨hx, hb, hml, hr, hlk, hown, hts, hal, hsz, hkp, hnm, hrf, hrl, hG⟩ := hX
  obtain ⟨⟨s1, s2, s3, s4, s5⟩, s6, C, T, N, s7, s8, s9⟩ := hs
  obtain ⟨c1, c2, hM⟩ := hC
  have b1 := kk.1
  have b2 := kk.2.1
  refine ⟨by omega, by omega, fun ls H locs g1 g2 hl hR hS => ?_⟩
  have hK := va_K.moved hal.alike hG.1
  have hG1 := ab_tg_good (ab_wsW_in s1)
  have hrm : (ab_room Z h h1).frames + 1 ≤ R.frames ∧ 8 + (Z.2.2.1 + 11) + (ab_room Z h h1).locals ≤ R.locals := ⟨by rw [hrf]; exact s4, by rw [hrl]; exact s5⟩
  have hstk : (F0 m pc ls (st.map (ab_ren G))).stack = (av.map (ab_ren G)).reverse ++ .ref (G.2.1 + b) :: rest.map (ab_ren G) := by show st.map (ab_ren G) = _; rw [hst, List.map_append, List.map_reverse]; rfl
  have hW2 : 2 * (F0 m pc ls (st.map (ab_ren G))).monitorRoom + ((rest.map (ab_ren G)).map fun v => v.category).sum ≤ 8 := lv_room (by rw [ab_catsum]; exact hW)
  have hnn : (av.map (ab_ren G)).length = n := by rw [List.length_map]; exact hav
  have hf : (h.length - h0.length) + (h1.length - h.length) ≤ R.cells ∧ (ab_sz h - ab_sz h0) + (ab_sz h1 - ab_sz h) ≤ R.slots := ⟨by omega, by omega⟩
  have he : (ab_wld G h)[b]? = some (G.2.1 + b, .inr (ci, fs.map (ab_ren G))) := ab_wld_get hc
  have hp : PreV s H C (G.2.1 + b) (va_Pc ((Value.ref b :: av).map (ab_ren G)) (ab_RU G h)) (av.map (ab_ren G)) := ⟨ab_blind G _ h, va_recv hK hR.1 s7 he, ab_pre ((Value.ref b :: av).map (ab_ren G)) hR hal⟩
  have hrun : va_Run p G.2.2.2.2.2 e R s m args below meth c H locs (h.length - h0.length) (ab_sz h - ab_sz h0) (h1.length - h.length) (ab_sz h1 - ab_sz h) (F0 m pc ls (st.map (ab_ren G))) (rest.map (ab_ren G)) (ab_Qc G r h1 ((Value.ref b :: av).map (ab_ren G)).toArray) (ab_A G) :=
    vx_runVW (bytes := Z.2.1) (maxL := Z.2.2.1) (ret := Z.2.2.2.1) (C := C) (hh := hh) ⟨hx, hb, hml, hown, hts⟩ hM ⟨⟨rfl, rfl, hrm.1, hrm.2, pay_in hts hG1, List.mem_cons_self⟩, hts _ s1, hts _ s2, ⟨s3.1, s3.2.1⟩, ab_sigW s3.2.2, hts _ s8, hts _ s6, hts _ s9⟩ hp rfl hnn (hl.1) hstk hW2 hm hf
  refine ab_cont hrun hS fun H1 locs1 hR1 hS1 => ?_
  have w := kk.2.2 ls H1 locs1 (by omega) (by omega) hl hR1 hS1
  rw [ab_rtl, show h.length - h0.length + (h1.length - h.length) = h1.length - h0.length by omega, show ab_sz h - ab_sz h0 + (ab_sz h1 - ab_sz h) = ab_sz h1 - ab_sz h0 by omega]
  exact w
def ab_sSW (M : ab_M) (i : Nat) (Z : ab_M) (hh : List (Nat × Nat × Nat × Nat)) (n : Nat) : Prop := ab_c0W M Z hh n ∧ Cond.static Z.1 ∈ ab_Tg ∧ Cond.methodLink M.1.cls i Z.1 ∈ ab_Tg
theorem ab_callSW {G : ab_G} {M : ab_M} {X : ab_X} {pc : Nat} {l : List (Nat × Value)} {st rest av : List Value} {h h1 : List ab_E} {Z : ab_M} {hh : List (Nat × Nat × Nat × Nat)} {i n : Nat} {r : Option Value} (hX : ab_Good G M X) (hm : decode M.2.1 pc = .ok (.invokestatic i, 3)) (hs : ab_sSW M i Z hh n) (hC : ab_CW G Z hh av h r h1) (hav : av.length = n) (hst : st = av.reverse ++ rest) (hW : (rest.map Value.category).sum ≤ 8)
    (kk : ab_WA G M X (pc + 3) l (r.toList ++ rest) h1) : ab_WA G M X pc l st h := by
  obtain ⟨p, e, R, s, m, args, below, meth, c, Q, h0⟩ := X
  obtain ⟨hx, hb, hml, hr, hlk, hown, hts, hal, hsz, hkp, hnm, hrf, hrl, hG⟩ := hX
  obtain ⟨⟨s1, s2, s3, s4, s5⟩, s6, s7⟩ := hs
  obtain ⟨c1, c2, hM⟩ := hC
  have b1 := kk.1
  have b2 := kk.2.1
  refine ⟨by omega, by omega, fun ls H locs g1 g2 hl hR hS => ?_⟩
  have hG1 := ab_tg_good (ab_wsW_in s1)
  have hrm : (ab_room Z h h1).frames + 1 ≤ R.frames ∧ 8 + (Z.2.2.1 + 11) + (ab_room Z h h1).locals ≤ R.locals := ⟨by rw [hrf]; exact s4, by rw [hrl]; exact s5⟩
  have hstk : (F0 m pc ls (st.map (ab_ren G))).stack = (av.map (ab_ren G)).reverse ++ rest.map (ab_ren G) := by show st.map (ab_ren G) = _; rw [hst, List.map_append, List.map_reverse]
  have hW2 : 2 * (F0 m pc ls (st.map (ab_ren G))).monitorRoom + ((rest.map (ab_ren G)).map fun v => v.category).sum ≤ 8 := lv_room (by rw [ab_catsum]; exact hW)
  have hnn : (av.map (ab_ren G)).length = n := by rw [List.length_map]; exact hav
  have hf : (h.length - h0.length) + (h1.length - h.length) ≤ R.cells ∧ (ab_sz h - ab_sz h0) + (ab_sz h1 - ab_sz h) ≤ R.slots := ⟨by omega, by omega⟩
  have hrun : va_Run p G.2.2.2.2.2 e R s m args below meth c H locs (h.length - h0.length) (ab_sz h - ab_sz h0) (h1.length - h.length) (ab_sz h1 - ab_sz h) (F0 m pc ls (st.map (ab_ren G))) (rest.map (ab_ren G)) (ab_Qc G r h1 (av.map (ab_ren G)).toArray) (ab_A G) :=
    vx_runSW (bytes := Z.2.1) (maxL := Z.2.2.1) (ret := Z.2.2.2.1) (hh := hh) ⟨hx, hb, hml, hown, hts⟩ hM ⟨⟨rfl, rfl, hrm.1, hrm.2, pay_in hts hG1, List.mem_cons_self⟩, hts _ s1, hts _ s2, ⟨s3.1, s3.2.1⟩, ab_sigW s3.2.2, hts _ s7, hts _ s6⟩ ⟨ab_blind G _ h, ab_pre _ hR hal⟩ rfl hnn (hl.1) hstk hW2 hm hf
  refine ab_cont hrun hS fun H1 locs1 hR1 hS1 => ?_
  have w := kk.2.2 ls H1 locs1 (by omega) (by omega) hl hR1 hS1
  rw [ab_rtl, show h.length - h0.length + (h1.length - h.length) = h1.length - h0.length by omega, show ab_sz h - ab_sz h0 + (ab_sz h1 - ab_sz h) = ab_sz h1 - ab_sz h0 by omega]
  exact w
