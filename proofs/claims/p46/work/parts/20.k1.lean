/-! a call of super.m where the superclass itself inherits m -/
theorem ab_up {vm : Vm} {a b : ClassId} {k : Class} (hk : vm.classes[a]? = some k) (hs : k.super = some b) : vm.isSubclass a b = true := by
  have hz : 0 < vm.classes.size := Nat.lt_of_le_of_lt (Nat.zero_le _) (Array.getElem?_eq_some_iff.mp hk).1
  obtain ⟨z, hz⟩ : ∃ z, vm.classes.size = z + 1 := ⟨vm.classes.size - 1, by omega⟩
  unfold Vm.isSubclass
  rw [hz]
  simp [Vm.isSubclassAux, hk, hs]
theorem ab_runX {p : Program} {l : Launch} {e : Env} {R : Room} {s : State} {m : MethodId} {args : Array Value} {below : List Frame} {meth : Method} {c : Code} {H : Heap} {locs : List Loc} {cells slots : Nat} {x : String} {y : MethodName} {bytes cc : ByteArray} {maxL nL mc ms n index : Nat} {ret : Option FieldType} {ws : List Cond} {rm : Room} {Pc : Array Value → State → Prop} {Qc : Array Value → State → Outcome → State → Prop} {free : Addr → Prop} {own C : String} {cC : ClassId} {b : Addr} {As rest : List Value} {g : JFrame}
    (hat : ClassAt s C cC) (hx : p.tables.exec = Jvm.exec) (hb : c.code = cc) (hml : c.maxLocals = nL) (hown : s.vm.findClass own = some m.cls) (hM : Met l y ws rm Pc Qc mc ms free)
    (hrc : rm.cells = mc) (hrs : rm.slots = ms) (hfr : rm.frames + 1 ≤ R.frames) (hlo : 8 + (maxL + 11) + rm.locals ≤ R.locals) (hws : ∀ w ∈ ws, ∀ (a' : Array Value) (U : State), s.WarmedH U.vm → w.before a' U = true) (hcw : Cond.code y bytes maxL ret ∈ ws)
    (hlink : (Cond.methodLink own index ⟨x, y.name, y.desc⟩).before args s = true) (hsame : (Cond.sameMethod x y.cls y.name y.desc).before args s = true) (hsup : (Cond.superclass own x).before args s = true) (hsup2 : (Cond.superclass x y.cls).before args s = true)
    (hinst : (Cond.instanceMethod y).before args s = true) (hini : (Cond.initialized y.cls).before args s = true) (hcode : (Cond.code y bytes maxL ret).before args s = true) (hno : y.name ≠ "<init>") (hlen : ∀ sig, parseMethodDescriptor y.desc = some sig → n = sig.parameters.length)
    (hp : PreV s H C b Pc As) (hg : g.method = m) (hn : As.length = n) (hsize : g.locals.size = nL) (hstack : g.stack = As.reverse ++ .ref b :: rest) (hW : 2 * g.monitorRoom + (rest.map fun v => v.category).sum ≤ 8) (hdg : decode cc g.pc = .ok (.invokespecial index, 3)) (hf : cells + mc ≤ R.cells ∧ slots + ms ≤ R.slots) :
    va_Run p l e R s m args below meth c H locs cells slots mc ms g rest (Qc (Value.ref b :: As).toArray) free := by
  have hK : Back l R p e below s args y 3 8 (PreOf R mc ms Pc) (PostOf Qc mc ms free) := back_of (bytes := bytes) (maxL := maxL) (ret := ret) hM hp.1 hrc hrs hfr hlo hws hcw (fun a' U hW => word_at hW (Or.inl (by first | rfl | simp [Cond.onTables, Cond.keeps, Cond.steady])) hini)
  obtain ⟨-, ⟨cB, f1, f2, f3⟩, hPc⟩ := hp
  obtain ⟨hfc, kB, hkB, -⟩ := hat
  cases hfc.symm.trans f3
  obtain ⟨mk, mM, u1, u2, u3, u4⟩ := Cond.instanceMethod_spec hinst
  obtain ⟨mM', cM, v1, -, -, -, -, -, -, v2⟩ := Cond.code_spec u1 hcode
  cases u2.symm.trans v1
  obtain ⟨px, kx, -, hpx, hkx, -, hsx, -, -, hix⟩ := Cond.superclass_spec hown hsup
  obtain ⟨py, ky, -, hpy, hky, -, hsy, -, -, -⟩ := Cond.superclass_spec hpx hsup2
  have e1 : py = mk.cls := Option.some.inj (hpy.symm.trans (findClass_of_methodNamed u1))
  intro T hT X
  obtain ⟨vm₁, X₁, st1⟩ := X.invokespecialUp hx hown hlink hsame (x := ⟨x, y.name, y.desc⟩) (owner := y.cls) u1 u2 u3 u4 hno hkx hix hpx hsx (by rw [← e1]; exact ab_up hky hsy) (a := b) (cell := cB) (by rw [hT]; exact f1) (fun z q => by rw [q] at f2; cases f2) hkB (g := g) hg (argsL := As) (rest := rest) (hn.trans (hlen _ v2)) hstack (by rw [hb]; exact hdg)
  obtain ⟨v, ⟨U, l2, c2, s2⟩, X', ⟨g', mk', t, L, a1, a2, hq, b1, hL, b2, b3⟩, st2⟩ := hK m meth c ⟨T.setVm vm₁, locs, cells, slots⟩ { g with stack := rest } (.invokespecial index) mk (Value.ref b :: As).toArray X₁ hg (hsize.trans hml.symm) (by rw [hb]; exact hdg) hW (X₁.named u1) ⟨hf.1, hf.2, hPc (T.setVm vm₁) hT X₁.warmed⟩
  dsimp only [Pt.U, Pt.locs, Pt.cells, Pt.slots] at X' a1 a2 b1 b2 b3 st2
  subst b1 b2 b3
  exact ⟨v, (T.setVm vm₁).calling g' mk' (Value.ref b :: As).toArray, t, U, L, hT, X', hL, a1, a2, hq, fun target h => st1 _ (by rw [doInvoke_state]; exact st2.trans h)⟩
def ab_sQ (M : ab_M) (i : Nat) (Z : ab_M) (n : Nat) : Prop := ab_c0 M Z n ∧ Cond.instanceMethod Z.1 ∈ ab_Tg ∧ Z.1.name ≠ "<init>" ∧ ∃ x : String, Cond.methodLink M.1.cls i ⟨x, Z.1.name, Z.1.desc⟩ ∈ ab_Tg ∧ Cond.sameMethod x Z.1.cls Z.1.name Z.1.desc ∈ ab_Tg ∧ Cond.superclass M.1.cls x ∈ ab_Tg ∧ Cond.superclass x Z.1.cls ∈ ab_Tg
theorem ab_callQ {G : ab_G} {M : ab_M} {X : ab_X} {pc : Nat} {l : List (Nat × Value)} {st rest av : List Value} {h h1 : List ab_E} {Z : ab_M} {i n ci b : Nat} {fs : List Value} {q : vw_C} {r : Option Value} (hX : ab_Good G M X) (hm : decode M.2.1 pc = .ok (.invokespecial i, 3)) (hc : h[b]? = some (.inr (ci, fs))) (hq : ab_cls[ci]? = some q) (hs : ab_sQ M i Z n) (hC : ab_CM G Z (.ref b :: av) h r h1) (hav : av.length = n) (hst : st = av.reverse ++ .ref b :: rest) (hW : (rest.map Value.category).sum ≤ 8)
    (kk : ab_WA G M X (pc + 3) l (r.toList ++ rest) h1) : ab_WA G M X pc l st h := by
  obtain ⟨p, e, R, s, m, args, below, meth, c, Q, h0⟩ := X
  obtain ⟨hx, hb, hml, hr, hlk, hown, hts, hal, hsz, hkp, hnm, hrf, hrl, hG⟩ := hX
  obtain ⟨⟨s1, s2, s3, s4, s5⟩, s6, s7, x, s8, s9, s10, s11⟩ := hs
  obtain ⟨c1, c2, hM⟩ := hC
  have b1 := kk.1
  have b2 := kk.2.1
  refine ⟨by omega, by omega, fun ls H locs g1 g2 hl hR hS => ?_⟩
  have hK := va_K.moved hal.alike hG.1
  have hG1 := ab_tg_good (ab_ws_in s1)
  have hstk : (F0 m pc ls (st.map (ab_ren G))).stack = (av.map (ab_ren G)).reverse ++ .ref (G.2.1 + b) :: rest.map (ab_ren G) := by show st.map (ab_ren G) = _; rw [hst, List.map_append, List.map_reverse]; rfl
  have hW2 : 2 * (F0 m pc ls (st.map (ab_ren G))).monitorRoom + ((rest.map (ab_ren G)).map fun v => v.category).sum ≤ 8 := lv_room (by rw [ab_catsum]; exact hW)
  have hnn : (av.map (ab_ren G)).length = n := by rw [List.length_map]; exact hav
  have hf : (h.length - h0.length) + (h1.length - h.length) ≤ R.cells ∧ (ab_sz h - ab_sz h0) + (ab_sz h1 - ab_sz h) ≤ R.slots := ⟨by omega, by omega⟩
  have he : (ab_wld G h)[b]? = some (G.2.1 + b, .inr (ci, fs.map (ab_ren G))) := ab_wld_get hc
  have hp : PreV s H q.1 (G.2.1 + b) (va_Pc ((Value.ref b :: av).map (ab_ren G)) (ab_RU G h)) (av.map (ab_ren G)) := ⟨ab_blind G _ h, va_recv hK hR.1 hq he, ab_pre ((Value.ref b :: av).map (ab_ren G)) hR hal⟩
  have hrun : va_Run p G.2.2.2.2.2 e R s m args below meth c H locs (h.length - h0.length) (ab_sz h - ab_sz h0) (h1.length - h.length) (ab_sz h1 - ab_sz h) (F0 m pc ls (st.map (ab_ren G))) (rest.map (ab_ren G)) (ab_Qc G r h1 ((Value.ref b :: av).map (ab_ren G)).toArray) (ab_A G) :=
    ab_runX (bytes := Z.2.1) (maxL := Z.2.2.1) (ret := Z.2.2.2.1) (C := q.1) (hK.1 ci q hq).2 hx hb hml hown hM rfl rfl (by rw [hrf]; exact s4) (by rw [hrl]; exact s5) (pay_in hts hG1) List.mem_cons_self (hts _ s8) (hts _ s9) (hts _ s10) (hts _ s11) (hts _ s6) (hts _ s2) (hts _ s1) s7 (fun sig hsig => by
      have h2 := s3.2.2
      rw [hsig] at h2
      exact (Option.some.inj h2).symm) hp rfl hnn (hl.1) hstk hW2 hm hf
  refine ab_cont hrun hS fun H1 locs1 hR1 hS1 => ?_
  have w := kk.2.2 ls H1 locs1 (by omega) (by omega) hl hR1 hS1
  rw [ab_rtl, show h.length - h0.length + (h1.length - h.length) = h1.length - h0.length by omega, show ab_sz h - ab_sz h0 + (ab_sz h1 - ab_sz h) = ab_sz h1 - ab_sz h0 by omega]
  exact w
def inB (x n : Int32) : Bool := !decide (x < 0) && !decide (n ≤ x)
def afB (x : Int32) : Bool := !decide (x < 0) && !decide (63 < x)
def refL (r : Int32) : Int64 := 4000000000000000000 - r.toInt64
def eoB (w : Int32) : Bool := decide (w = 0) || decide (w = 1)
def wW (x : Int32) : Int64 := if x < 0 then 0 else if 6 ≤ x then 0 else ab_wv x.toNatClampNeg
def fb (x : Int32) : Int32 := (1 : Int32) <<< (x &&& 31)
def hwB (w : Int64) (x : Int32) : Bool := !decide ((w.toUInt64 >>> (x.toInt64.toUInt64 &&& Int64.toUInt64 63)).toInt64 &&& 1 = 0)
def faF (w : Int64) (i : Nat) (b : Int32) : Int32 := if w &&& (wW (nI i) ^^^ (-1)) = 0 then b ||| fb (nI i) else b
def fnF (w : Int64) (i : Nat) (b : Int32) : Int32 := if w &&& wW (nI i) = 0 then b ||| fb (nI i) else b
def faI (w : Int64) : Int32 := acc (faF w) 0 6
def fnI (w : Int64) : Int32 := acc (fnF w) 0 6
def ipB (w : Int64) (f : Int32) : Bool := !decide (w = 0) && decide (w &&& (wW f ^^^ (-1)) = 0)
def lkF (world known : Int32) (i : Nat) (b : Int64) : Int64 := if known &&& fb (nI i) = 0 then b else if world &&& fb (nI i) = 0 then b &&& (wW (nI i) ^^^ (-1)) else b &&& wW (nI i)
def lkI (w : Int64) (world known : Int32) : Int64 := acc (lkF world known) w 6
def dgC (x : Int32) : Int32 := if x = 108 then 4 else if x = 115 then 5 else if x = 116 then 2 else if x = 119 then 2 else -1
def isD (x : Int32) : Bool := !decide (x < 48) && !decide (57 < x)
def gdC : Nat → Int64 → Int64 → Int64
  | 0, x, _ => x
  | k + 1, x, y => if y = 0 then x else gdC k y (x - x / y * y)
def poF (base : Int32) (_ : Nat) (b : Int64) : Int64 := b * base.toInt64
def woF (j : Nat) (w : Int64) : Int64 := w * (13 - nI (j + 1)).toInt64 / (nI (j + 1)).toInt64
def nxS (x : Int32) : Int32 := x * 1103515245 + 12345
def drB (n x : Int32) : Int32 := if 0 < n then (x &&& 2147483647) / 65536 - (x &&& 2147483647) / 65536 / n * n else 0
theorem vin6 {x : Int32} (h1 : ¬ x < 0) (h2 : ¬ 6 ≤ x) : vp_in x 6 := by
  obtain ⟨j, hj, rfl⟩ := nI_of h1
  have h3 : j < 6 := Nat.not_le.mp fun q => h2 (nI_le (a := 6) q hj)
  exact vp_in_nI h3 (by decide)
theorem cm_X11_isFact {G : ab_G} (hG : ab_GG G) {h : List ab_E} {f : Int32}  : ab_CM G mX11_isFact [.int f] h (some (.int (bi (inB f 6)))) h := by
  refine ab_meth (l0 := [(0, .int f)]) hG (by decide +kernel) rfl (Nat.le_of_ble_eq_true rfl) (Nat.le_refl _) (Nat.le_refl _) (fun X hX hF => ?_)
  refine ab_iload_n hX dX11_isFact_0 mm0 ?_
  refine ab_iflt (tgt := 14) hX dX11_isFact_1 (by decide) (fun h_1 => ?_) (fun h_1 => ?_)
  ·
    refine ab_iconst (v := 0) hX dX11_isFact_14 (by decide) ?_
    exact ab_ireturn hX hF dX11_isFact_15 rfl (by first | rfl | exact bi_n _) (congrArg some (congrArg Value.int (by simp [bi_t, bi_f, inB, h_1]))) (by rfl)
  ·
    refine ab_iload_n hX dX11_isFact_4 mm0 ?_
    refine ab_bipush (v := 6) hX dX11_isFact_5 (by decide) ?_
    refine ab_icmpge (tgt := 14) hX dX11_isFact_7 (by decide) (fun h_2 => ?_) (fun h_2 => ?_)
    ·
      refine ab_iconst (v := 0) hX dX11_isFact_14 (by decide) ?_
      exact ab_ireturn hX hF dX11_isFact_15 rfl (by first | rfl | exact bi_n _) (congrArg some (congrArg Value.int (by simp [bi_t, bi_f, inB, h_1, h_2]))) (by rfl)
    ·
      refine ab_iconst (v := 1) hX dX11_isFact_10 (by decide) ?_
      refine ab_goto (tgt := 15) hX dX11_isFact_11 (by decide) ?_
      exact ab_ireturn hX hF dX11_isFact_15 rfl (by first | rfl | exact bi_n _) (congrArg some (congrArg Value.int (by simp [bi_t, bi_f, inB, h_1, h_2]))) (by rfl)
theorem cm_X11_areFacts {G : ab_G} (hG : ab_GG G) {h : List ab_E} {f : Int32}  : ab_CM G mX11_areFacts [.int f] h (some (.int (bi (afB f)))) h := by
  refine ab_meth (l0 := [(0, .int f)]) hG (by decide +kernel) rfl (Nat.le_of_ble_eq_true rfl) (Nat.le_refl _) (Nat.le_refl _) (fun X hX hF => ?_)
  refine ab_iload_n hX dX11_areFacts_0 mm0 ?_
  refine ab_iflt (tgt := 14) hX dX11_areFacts_1 (by decide) (fun h_1 => ?_) (fun h_1 => ?_)
  ·
    refine ab_iconst (v := 0) hX dX11_areFacts_14 (by decide) ?_
    exact ab_ireturn hX hF dX11_areFacts_15 rfl (by first | rfl | exact bi_n _) (congrArg some (congrArg Value.int (by simp [bi_t, bi_f, afB, h_1]))) (by rfl)
  ·
    refine ab_iload_n hX dX11_areFacts_4 mm0 ?_
    refine ab_bipush (v := 63) hX dX11_areFacts_5 (by decide) ?_
    refine ab_icmpgt (tgt := 14) hX dX11_areFacts_7 (by decide) (fun h_2 => ?_) (fun h_2 => ?_)
    ·
      refine ab_iconst (v := 0) hX dX11_areFacts_14 (by decide) ?_
      exact ab_ireturn hX hF dX11_areFacts_15 rfl (by first | rfl | exact bi_n _) (congrArg some (congrArg Value.int (by simp [bi_t, bi_f, afB, h_1, h_2]))) (by rfl)
    ·
      refine ab_iconst (v := 1) hX dX11_areFacts_10 (by decide) ?_
      refine ab_goto (tgt := 15) hX dX11_areFacts_11 (by decide) ?_
      exact ab_ireturn hX hF dX11_areFacts_15 rfl (by first | rfl | exact bi_n _) (congrArg some (congrArg Value.int (by simp [bi_t, bi_f, afB, h_1, h_2]))) (by rfl)
theorem cm_X11_isWorld {G : ab_G} (hG : ab_GG G) {h : List ab_E} {f : Int32}  : ab_CM G mX11_isWorld [.int f] h (some (.int (bi (inB f 64)))) h := by
  refine ab_meth (l0 := [(0, .int f)]) hG (by decide +kernel) rfl (Nat.le_of_ble_eq_true rfl) (Nat.le_refl _) (Nat.le_refl _) (fun X hX hF => ?_)
  refine ab_iload_n hX dX11_isWorld_0 mm0 ?_
  refine ab_iflt (tgt := 14) hX dX11_isWorld_1 (by decide) (fun h_1 => ?_) (fun h_1 => ?_)
  ·
    refine ab_iconst (v := 0) hX dX11_isWorld_14 (by decide) ?_
    exact ab_ireturn hX hF dX11_isWorld_15 rfl (by first | rfl | exact bi_n _) (congrArg some (congrArg Value.int (by simp [bi_t, bi_f, inB, h_1]))) (by rfl)
  ·
    refine ab_iload_n hX dX11_isWorld_4 mm0 ?_
    refine ab_bipush (v := 64) hX dX11_isWorld_5 (by decide) ?_
    refine ab_icmpge (tgt := 14) hX dX11_isWorld_7 (by decide) (fun h_2 => ?_) (fun h_2 => ?_)
    ·
      refine ab_iconst (v := 0) hX dX11_isWorld_14 (by decide) ?_
      exact ab_ireturn hX hF dX11_isWorld_15 rfl (by first | rfl | exact bi_n _) (congrArg some (congrArg Value.int (by simp [bi_t, bi_f, inB, h_1, h_2]))) (by rfl)
    ·
      refine ab_iconst (v := 1) hX dX11_isWorld_10 (by decide) ?_
      refine ab_goto (tgt := 15) hX dX11_isWorld_11 (by decide) ?_
      exact ab_ireturn hX hF dX11_isWorld_15 rfl (by first | rfl | exact bi_n _) (congrArg some (congrArg Value.int (by simp [bi_t, bi_f, inB, h_1, h_2]))) (by rfl)
theorem cm_X11_isEitherOr {G : ab_G} (hG : ab_GG G) {h : List ab_E} {w : Int32}  : ab_CM G mX11_isEitherOr [.int w] h (some (.int (bi (eoB w)))) h := by
  refine ab_meth (l0 := [(0, .int w)]) hG (by decide +kernel) rfl (Nat.le_of_ble_eq_true rfl) (Nat.le_refl _) (Nat.le_refl _) (fun X hX hF => ?_)
  refine ab_iload_n hX dX11_isEitherOr_0 mm0 ?_
  refine ab_ifeq (tgt := 9) hX dX11_isEitherOr_1 (by decide) (fun h_1 => ?_) (fun h_1 => ?_)
  ·
    refine ab_iconst (v := 1) hX dX11_isEitherOr_9 (by decide) ?_
    refine ab_goto (tgt := 14) hX dX11_isEitherOr_10 (by decide) ?_
    exact ab_ireturn hX hF dX11_isEitherOr_14 rfl (by first | rfl | exact bi_n _) (congrArg some (congrArg Value.int (by simp [bi_t, bi_f, eoB, h_1]))) (by rfl)
  ·
    refine ab_iload_n hX dX11_isEitherOr_4 mm0 ?_
    refine ab_iconst (v := 1) hX dX11_isEitherOr_5 (by decide) ?_
    refine ab_icmpne (tgt := 13) hX dX11_isEitherOr_6 (by decide) (fun h_2 => ?_) (fun h_2 => ?_)
    ·
      refine ab_iconst (v := 0) hX dX11_isEitherOr_13 (by decide) ?_
      exact ab_ireturn hX hF dX11_isEitherOr_14 rfl (by first | rfl | exact bi_n _) (congrArg some (congrArg Value.int (by simp [bi_t, bi_f, eoB, h_1, h_2]))) (by rfl)
    ·
      refine ab_iconst (v := 1) hX dX11_isEitherOr_9 (by decide) ?_
      refine ab_goto (tgt := 14) hX dX11_isEitherOr_10 (by decide) ?_
      exact ab_ireturn hX hF dX11_isEitherOr_14 rfl (by first | rfl | exact bi_n _) (congrArg some (congrArg Value.int (by simp [bi_t, bi_f, eoB, h_1, h_2]))) (by rfl)
theorem cm_X11_oneIf {G : ab_G} (hG : ab_GG G) {h : List ab_E} {b : Bool} : ab_CM G mX11_oneIf [.int (bi b)] h (some (.int (bi b))) h := by
  refine ab_meth (l0 := [(0, .int (bi b))]) hG (by decide +kernel) rfl (Nat.le_of_ble_eq_true rfl) (Nat.le_refl _) (Nat.le_refl _) (fun X hX hF => ?_)
  refine ab_iload_n hX dX11_oneIf_0 mm0 ?_
  refine ab_ifeqB (tgt := 8) hX dX11_oneIf_1 (by decide) (fun h_1 => ?_) (fun h_1 => ?_)
  ·
    refine ab_iconst (v := 0) hX dX11_oneIf_8 (by decide) ?_
    exact ab_ireturn hX hF dX11_oneIf_9 rfl (by rfl) (congrArg some (congrArg Value.int (by simp [bi_t, bi_f, h_1]))) (by rfl)
  ·
    refine ab_iconst (v := 1) hX dX11_oneIf_4 (by decide) ?_
    refine ab_goto (tgt := 9) hX dX11_oneIf_5 (by decide) ?_
    exact ab_ireturn hX hF dX11_oneIf_9 rfl (by rfl) (congrArg some (congrArg Value.int (by simp [bi_t, bi_f, h_1]))) (by rfl)
theorem cm_X11_refusedLong {G : ab_G} (hG : ab_GG G) {h : List ab_E} {r : Int32}  : ab_CM G mX11_refusedLong [.int r] h (some (.long (refL r))) h := by
  refine ab_meth (l0 := [(0, .int r)]) hG (by decide +kernel) rfl (Nat.le_of_ble_eq_true rfl) (Nat.le_refl _) (Nat.le_refl _) (fun X hX hF => ?_)
  refine ab_ldc2 hX dX11_refusedLong_0 tw_600 ?_
  refine ab_iload_n hX dX11_refusedLong_3 mm0 ?_
  refine ab_i2l hX dX11_refusedLong_4 ?_
  refine ab_lsub hX dX11_refusedLong_5 ?_
  exact ab_lreturn hX hF dX11_refusedLong_6 rfl (congrArg some (congrArg Value.long (by rfl))) (by rfl)
theorem cm_X11_worldsWith {G : ab_G} (hG : ab_GG G) {h : List ab_E} {f : Int32}  : ab_CM G mX11_worldsWith [.int f] h (some (.long (wW f))) h := by
  refine ab_meth (l0 := [(0, .int f)]) hG (by decide +kernel) rfl (Nat.le_of_ble_eq_true rfl) (Nat.le_refl _) (Nat.le_refl _) (fun X hX hF => ?_)
  refine ab_iload_n hX dX11_worldsWith_0 mm0 ?_
  refine ab_iflt (tgt := 20) hX dX11_worldsWith_1 (by decide) (fun h_1 => ?_) (fun h_1 => ?_)
  ·
    refine ab_lconst (v := 0) hX dX11_worldsWith_20 rfl ?_
    exact ab_lreturn hX hF dX11_worldsWith_21 rfl (congrArg some (congrArg Value.long (by simp only [wW, h_1, ↓reduceIte]))) (by rfl)
  ·
    refine ab_iload_n hX dX11_worldsWith_4 mm0 ?_
    refine ab_getstatic 2 (by decide) hX dX11_worldsWith_5 tw_376 (fun hg => hg.2.2.2.2.1) ?_
    refine ab_wlen hX dX11_worldsWith_8 ?_
    refine ab_icmpge (tgt := 20) hX dX11_worldsWith_9 (by decide) (fun h_2 => ?_) (fun h_2 => ?_)
    ·
      refine ab_lconst (v := 0) hX dX11_worldsWith_20 rfl ?_
      exact ab_lreturn hX hF dX11_worldsWith_21 rfl (congrArg some (congrArg Value.long (by simp only [wW, h_1, h_2, ↓reduceIte]))) (by rfl)
    ·
      refine ab_getstatic 2 (by decide) hX dX11_worldsWith_12 tw_376 (fun hg => hg.2.2.2.2.1) ?_
      refine ab_iload_n hX dX11_worldsWith_15 mm0 ?_
      refine ab_wload hX dX11_worldsWith_16 (by exact vin6 h_1 h_2) ?_
      refine ab_goto (tgt := 21) hX dX11_worldsWith_17 (by decide) ?_
      exact ab_lreturn hX hF dX11_worldsWith_21 rfl (congrArg some (congrArg Value.long (by simp only [wW, h_1, h_2, ↓reduceIte]))) (by rfl)
theorem cm_X11_factBit {G : ab_G} (hG : ab_GG G) {h : List ab_E} {f : Int32}  : ab_CM G mX11_factBit [.int f] h (some (.int (fb f))) h := by
  refine ab_meth (l0 := [(0, .int f)]) hG (by decide +kernel) rfl (Nat.le_of_ble_eq_true rfl) (Nat.le_refl _) (Nat.le_refl _) (fun X hX hF => ?_)
  refine ab_iconst (v := 1) hX dX11_factBit_0 (by decide) ?_
  refine ab_iload_n hX dX11_factBit_1 mm0 ?_
  refine ab_ishl hX dX11_factBit_2 ?_
  exact ab_ireturn hX hF dX11_factBit_3 rfl (by rfl) (congrArg some (congrArg Value.int (by rfl))) (by rfl)
theorem cm_X11_hasWorld {G : ab_G} (hG : ab_GG G) {h : List ab_E} {w : Int64} {i : Int32}  : ab_CM G mX11_hasWorld [.long w, .int i] h (some (.int (bi (hwB w i)))) h := by
  refine ab_meth (l0 := [(0, .long w), (2, .int i)]) hG (by decide +kernel) rfl (Nat.le_of_ble_eq_true rfl) (Nat.le_refl _) (Nat.le_refl _) (fun X hX hF => ?_)
  refine ab_lload_n hX dX11_hasWorld_0 mm0 ?_
  refine ab_iload_n hX dX11_hasWorld_1 mm1 ?_
  refine ab_lushr hX dX11_hasWorld_2 ?_
  refine ab_lconst (v := 1) hX dX11_hasWorld_3 rfl ?_
  refine ab_land hX dX11_hasWorld_4 ?_
  refine ab_lconst (v := 0) hX dX11_hasWorld_5 rfl ?_
  refine ab_lcmp hX dX11_hasWorld_6 ?_
  refine ab_ifeqC (tgt := 14) hX dX11_hasWorld_7 (by decide) (fun h_1 => ?_) (fun h_1 => ?_)
  ·
    refine ab_iconst (v := 0) hX dX11_hasWorld_14 (by decide) ?_
    exact ab_ireturn hX hF dX11_hasWorld_15 rfl (by first | rfl | exact bi_n _) (congrArg some (congrArg Value.int (by simp [bi_t, bi_f, hwB, h_1]))) (by rfl)
  ·
    refine ab_iconst (v := 1) hX dX11_hasWorld_10 (by decide) ?_
    refine ab_goto (tgt := 15) hX dX11_hasWorld_11 (by decide) ?_
    exact ab_ireturn hX hF dX11_hasWorld_15 rfl (by first | rfl | exact bi_n _) (congrArg some (congrArg Value.int (by simp [bi_t, bi_f, hwB, h_1]))) (by rfl)
theorem cm_X11_factsOfAll {G : ab_G} (hG : ab_GG G) {h : List ab_E} {w : Int64}  : ab_CM G mX11_factsOfAll [.long w] h (some (.int (faI w))) h := by
  refine ab_meth (l0 := [(0, .long w)]) hG (by decide +kernel) rfl (Nat.le_of_ble_eq_true rfl) (Nat.le_refl _) (Nat.le_refl _) (fun X hX hF => ?_)
  refine ab_iconst (v := 0) hX dX11_factsOfAll_0 (by decide) ?_
  refine ab_istore_n hX dX11_factsOfAll_1 rfl (by decide) rfl ?_
  refine ab_iconst (v := 0) hX dX11_factsOfAll_2 (by decide) ?_
  refine ab_istore_n hX dX11_factsOfAll_3 rfl (by decide) rfl ?_
  have L4 : ∀ (k4_ : Nat) (i : Nat) (hi_ : i ≤ 6), k4_ = 6 - i → ab_WA G mX11_factsOfAll X 4 [(0, .long w), (2, .int (acc (faF w) 0 i)), (3, .int (nI i))] [] h := by
    intro k4_
    induction k4_ using Nat.strongRecOn with
    | _ k4_ ih4 =>
      intro i hi_ hk4_
      refine ab_iload_n hX dX11_factsOfAll_4 mm2 ?_
      refine ab_bipush (v := 6) hX dX11_factsOfAll_5 (by decide) ?_
      refine ab_icmpge (tgt := 38) hX dX11_factsOfAll_7 (by decide) (fun h_1 => ?_) (fun h_1 => ?_)
      ·
        have hx_ := ctE (N := 6) h_1 (by rfl) (by omega) (by omega)
        obtain rfl : 6 = i := by omega
        refine ab_iload_n hX dX11_factsOfAll_38 mm1 ?_
        exact ab_ireturn hX hF dX11_factsOfAll_39 rfl (by rfl) (congrArg some (congrArg Value.int (by rfl))) (by rfl)
      ·
        have hlt_ := ctL (N := 6) h_1 (by rfl) (by omega) (by omega)
        refine ab_lload_n hX dX11_factsOfAll_10 mm0 ?_
        refine ab_iload_n hX dX11_factsOfAll_11 mm2 ?_
        refine ab_callS1r hX dX11_factsOfAll_12 ss_X11_factsOfAll_233 (cm_X11_worldsWith hG) (Nat.le_of_ble_eq_true rfl) ?_
        refine ab_ldc2 hX dX11_factsOfAll_15 tw_620 ?_
        refine ab_lxor hX dX11_factsOfAll_18 ?_
        refine ab_land hX dX11_factsOfAll_19 ?_
        refine ab_lconst (v := 0) hX dX11_factsOfAll_20 rfl ?_
        refine ab_lcmp hX dX11_factsOfAll_21 ?_
        refine ab_ifneC (tgt := 32) hX dX11_factsOfAll_22 (by decide) (fun h_2 => ?_) (fun h_2 => ?_)
        ·
          refine ab_iinc hX dX11_factsOfAll_32 mm2 rfl (by decide) rfl ?_
          refine ab_goto (tgt := 4) hX dX11_factsOfAll_35 (by decide) ?_
          exact ab_pm3 (mmv1 (congrArg Value.long (by first | exact (nI_1 _).symm | rfl | (rw [acc_s]; first | rfl | (simp only [faF, h_1, h_2, ↓reduceIte, Bool.false_eq_true]; done) | (simp only [faF, h_1, h_2, ↓reduceIte, Bool.false_eq_true]; rfl))))) (mmv2 (congrArg Value.int (by first | exact (nI_1 _).symm | rfl | (rw [acc_s]; first | rfl | (simp only [faF, h_1, h_2, ↓reduceIte, Bool.false_eq_true]; done) | (simp only [faF, h_1, h_2, ↓reduceIte, Bool.false_eq_true]; rfl))))) (mmv0 (congrArg Value.int (by first | exact (nI_1 _).symm | rfl | (rw [acc_s]; first | rfl | (simp only [faF, h_1, h_2, ↓reduceIte, Bool.false_eq_true]; done) | (simp only [faF, h_1, h_2, ↓reduceIte, Bool.false_eq_true]; rfl))))) (ih4 (_) (by omega) (i + 1) (by omega) rfl)
        ·
          refine ab_iload_n hX dX11_factsOfAll_25 mm1 ?_
          refine ab_iload_n hX dX11_factsOfAll_26 mm2 ?_
          refine ab_callS1r hX dX11_factsOfAll_27 ss_X11_factsOfAll_402 (cm_X11_factBit hG) (Nat.le_of_ble_eq_true rfl) ?_
          refine ab_ior hX dX11_factsOfAll_30 ?_
          refine ab_istore_n hX dX11_factsOfAll_31 rfl (by decide) rfl ?_
          refine ab_iinc hX dX11_factsOfAll_32 mm2 rfl (by decide) rfl ?_
          refine ab_goto (tgt := 4) hX dX11_factsOfAll_35 (by decide) ?_
          exact ab_pm3 (mmv2 (congrArg Value.long (by first | exact (nI_1 _).symm | rfl | (rw [acc_s]; first | rfl | (simp only [faF, h_1, h_2, ↓reduceIte, Bool.false_eq_true]; done) | (simp only [faF, h_1, h_2, ↓reduceIte, Bool.false_eq_true]; rfl))))) (mmv1 (congrArg Value.int (by first | exact (nI_1 _).symm | rfl | (rw [acc_s]; first | rfl | (simp only [faF, h_1, h_2, ↓reduceIte, Bool.false_eq_true]; done) | (simp only [faF, h_1, h_2, ↓reduceIte, Bool.false_eq_true]; rfl))))) (mmv0 (congrArg Value.int (by first | exact (nI_1 _).symm | rfl | (rw [acc_s]; first | rfl | (simp only [faF, h_1, h_2, ↓reduceIte, Bool.false_eq_true]; done) | (simp only [faF, h_1, h_2, ↓reduceIte, Bool.false_eq_true]; rfl))))) (ih4 (_) (by omega) (i + 1) (by omega) rfl)
  exact ab_pm3 (mmv2 (congrArg Value.long (by rfl))) (mmv1 (congrArg Value.int (by rfl))) (mmv0 (congrArg Value.int (by rfl))) (L4 _ 0 (by omega) rfl)
theorem cm_X11_factsOfNone {G : ab_G} (hG : ab_GG G) {h : List ab_E} {w : Int64}  : ab_CM G mX11_factsOfNone [.long w] h (some (.int (fnI w))) h := by
  refine ab_meth (l0 := [(0, .long w)]) hG (by decide +kernel) rfl (Nat.le_of_ble_eq_true rfl) (Nat.le_refl _) (Nat.le_refl _) (fun X hX hF => ?_)
  refine ab_iconst (v := 0) hX dX11_factsOfNone_0 (by decide) ?_
  refine ab_istore_n hX dX11_factsOfNone_1 rfl (by decide) rfl ?_
  refine ab_iconst (v := 0) hX dX11_factsOfNone_2 (by decide) ?_
  refine ab_istore_n hX dX11_factsOfNone_3 rfl (by decide) rfl ?_
  have L4 : ∀ (k4_ : Nat) (i : Nat) (hi_ : i ≤ 6), k4_ = 6 - i → ab_WA G mX11_factsOfNone X 4 [(0, .long w), (2, .int (acc (fnF w) 0 i)), (3, .int (nI i))] [] h := by
    intro k4_
    induction k4_ using Nat.strongRecOn with
    | _ k4_ ih4 =>
      intro i hi_ hk4_
      refine ab_iload_n hX dX11_factsOfNone_4 mm2 ?_
      refine ab_bipush (v := 6) hX dX11_factsOfNone_5 (by decide) ?_
      refine ab_icmpge (tgt := 34) hX dX11_factsOfNone_7 (by decide) (fun h_1 => ?_) (fun h_1 => ?_)
      ·
        have hx_ := ctE (N := 6) h_1 (by rfl) (by omega) (by omega)
        obtain rfl : 6 = i := by omega
        refine ab_iload_n hX dX11_factsOfNone_34 mm1 ?_
        exact ab_ireturn hX hF dX11_factsOfNone_35 rfl (by rfl) (congrArg some (congrArg Value.int (by rfl))) (by rfl)
      ·
        have hlt_ := ctL (N := 6) h_1 (by rfl) (by omega) (by omega)
        refine ab_lload_n hX dX11_factsOfNone_10 mm0 ?_
        refine ab_iload_n hX dX11_factsOfNone_11 mm2 ?_
        refine ab_callS1r hX dX11_factsOfNone_12 ss_X11_factsOfNone_233 (cm_X11_worldsWith hG) (Nat.le_of_ble_eq_true rfl) ?_
        refine ab_land hX dX11_factsOfNone_15 ?_
        refine ab_lconst (v := 0) hX dX11_factsOfNone_16 rfl ?_
        refine ab_lcmp hX dX11_factsOfNone_17 ?_
        refine ab_ifneC (tgt := 28) hX dX11_factsOfNone_18 (by decide) (fun h_2 => ?_) (fun h_2 => ?_)
        ·
          refine ab_iinc hX dX11_factsOfNone_28 mm2 rfl (by decide) rfl ?_
          refine ab_goto (tgt := 4) hX dX11_factsOfNone_31 (by decide) ?_
          exact ab_pm3 (mmv1 (congrArg Value.long (by first | exact (nI_1 _).symm | rfl | (rw [acc_s]; first | rfl | (simp only [fnF, h_1, h_2, ↓reduceIte, Bool.false_eq_true]; done) | (simp only [fnF, h_1, h_2, ↓reduceIte, Bool.false_eq_true]; rfl))))) (mmv2 (congrArg Value.int (by first | exact (nI_1 _).symm | rfl | (rw [acc_s]; first | rfl | (simp only [fnF, h_1, h_2, ↓reduceIte, Bool.false_eq_true]; done) | (simp only [fnF, h_1, h_2, ↓reduceIte, Bool.false_eq_true]; rfl))))) (mmv0 (congrArg Value.int (by first | exact (nI_1 _).symm | rfl | (rw [acc_s]; first | rfl | (simp only [fnF, h_1, h_2, ↓reduceIte, Bool.false_eq_true]; done) | (simp only [fnF, h_1, h_2, ↓reduceIte, Bool.false_eq_true]; rfl))))) (ih4 (_) (by omega) (i + 1) (by omega) rfl)
        ·
          refine ab_iload_n hX dX11_factsOfNone_21 mm1 ?_
          refine ab_iload_n hX dX11_factsOfNone_22 mm2 ?_
          refine ab_callS1r hX dX11_factsOfNone_23 ss_X11_factsOfNone_402 (cm_X11_factBit hG) (Nat.le_of_ble_eq_true rfl) ?_
          refine ab_ior hX dX11_factsOfNone_26 ?_
          refine ab_istore_n hX dX11_factsOfNone_27 rfl (by decide) rfl ?_
          refine ab_iinc hX dX11_factsOfNone_28 mm2 rfl (by decide) rfl ?_
          refine ab_goto (tgt := 4) hX dX11_factsOfNone_31 (by decide) ?_
          exact ab_pm3 (mmv2 (congrArg Value.long (by first | exact (nI_1 _).symm | rfl | (rw [acc_s]; first | rfl | (simp only [fnF, h_1, h_2, ↓reduceIte, Bool.false_eq_true]; done) | (simp only [fnF, h_1, h_2, ↓reduceIte, Bool.false_eq_true]; rfl))))) (mmv1 (congrArg Value.int (by first | exact (nI_1 _).symm | rfl | (rw [acc_s]; first | rfl | (simp only [fnF, h_1, h_2, ↓reduceIte, Bool.false_eq_true]; done) | (simp only [fnF, h_1, h_2, ↓reduceIte, Bool.false_eq_true]; rfl))))) (mmv0 (congrArg Value.int (by first | exact (nI_1 _).symm | rfl | (rw [acc_s]; first | rfl | (simp only [fnF, h_1, h_2, ↓reduceIte, Bool.false_eq_true]; done) | (simp only [fnF, h_1, h_2, ↓reduceIte, Bool.false_eq_true]; rfl))))) (ih4 (_) (by omega) (i + 1) (by omega) rfl)
  exact ab_pm3 (mmv2 (congrArg Value.long (by rfl))) (mmv1 (congrArg Value.int (by rfl))) (mmv0 (congrArg Value.int (by rfl))) (L4 _ 0 (by omega) rfl)
theorem cm_X11_factsAlike {G : ab_G} (hG : ab_GG G) {h : List ab_E} {w : Int64}  : ab_CM G mX11_factsAlike [.long w] h (some (.int (faI w ||| fnI w))) h := by
  refine ab_meth (l0 := [(0, .long w)]) hG (by decide +kernel) rfl (Nat.le_of_ble_eq_true rfl) (Nat.le_refl _) (Nat.le_refl _) (fun X hX hF => ?_)
  refine ab_lload_n hX dX11_factsAlike_0 mm0 ?_
  refine ab_callS1r hX dX11_factsAlike_1 ss_X11_factsAlike_202 (cm_X11_factsOfAll hG) (Nat.le_of_ble_eq_true rfl) ?_
  refine ab_lload_n hX dX11_factsAlike_4 mm0 ?_
  refine ab_callS1r hX dX11_factsAlike_5 ss_X11_factsAlike_205 (cm_X11_factsOfNone hG) (Nat.le_of_ble_eq_true rfl) ?_
  refine ab_ior hX dX11_factsAlike_8 ?_
  exact ab_ireturn hX hF dX11_factsAlike_9 rfl (by rfl) (congrArg some (congrArg Value.int (by rfl))) (by rfl)
theorem cm_X11_isProvedBy {G : ab_G} (hG : ab_GG G) {h : List ab_E} {w : Int64} {f : Int32}  : ab_CM G mX11_isProvedBy [.long w, .int f] h (some (.int (bi (ipB w f)))) h := by
  refine ab_meth (l0 := [(0, .long w), (2, .int f)]) hG (by decide +kernel) rfl (Nat.le_of_ble_eq_true rfl) (Nat.le_refl _) (Nat.le_refl _) (fun X hX hF => ?_)
  refine ab_lload_n hX dX11_isProvedBy_0 mm0 ?_
  refine ab_lconst (v := 0) hX dX11_isProvedBy_1 rfl ?_
  refine ab_lcmp hX dX11_isProvedBy_2 ?_
  refine ab_ifeqC (tgt := 25) hX dX11_isProvedBy_3 (by decide) (fun h_1 => ?_) (fun h_1 => ?_)
  ·
    refine ab_iconst (v := 0) hX dX11_isProvedBy_25 (by decide) ?_
    exact ab_ireturn hX hF dX11_isProvedBy_26 rfl (by first | rfl | exact bi_n _) (congrArg some (congrArg Value.int (by simp only [ipB, h_1, decide_true, decide_false, Bool.true_and, Bool.false_and, Bool.and_true, Bool.and_false, Bool.not_true, Bool.not_false, Bool.or_true, Bool.true_or, Bool.false_or, Bool.or_false, bi_t, bi_f]))) (by rfl)
  ·
    refine ab_lload_n hX dX11_isProvedBy_6 mm0 ?_
    refine ab_iload_n hX dX11_isProvedBy_7 mm1 ?_
    refine ab_callS1r hX dX11_isProvedBy_8 ss_X11_isProvedBy_233 (cm_X11_worldsWith hG) (Nat.le_of_ble_eq_true rfl) ?_
    refine ab_ldc2 hX dX11_isProvedBy_11 tw_620 ?_
    refine ab_lxor hX dX11_isProvedBy_14 ?_
    refine ab_land hX dX11_isProvedBy_15 ?_
    refine ab_lconst (v := 0) hX dX11_isProvedBy_16 rfl ?_
    refine ab_lcmp hX dX11_isProvedBy_17 ?_
    refine ab_ifneC (tgt := 25) hX dX11_isProvedBy_18 (by decide) (fun h_2 => ?_) (fun h_2 => ?_)
    ·
      refine ab_iconst (v := 0) hX dX11_isProvedBy_25 (by decide) ?_
      exact ab_ireturn hX hF dX11_isProvedBy_26 rfl (by first | rfl | exact bi_n _) (congrArg some (congrArg Value.int (by simp only [ipB, h_1, h_2, decide_true, decide_false, Bool.true_and, Bool.false_and, Bool.and_true, Bool.and_false, Bool.not_true, Bool.not_false, Bool.or_true, Bool.true_or, Bool.false_or, Bool.or_false, bi_t, bi_f]))) (by rfl)
    ·
      refine ab_iconst (v := 1) hX dX11_isProvedBy_21 (by decide) ?_
      refine ab_goto (tgt := 26) hX dX11_isProvedBy_22 (by decide) ?_
      exact ab_ireturn hX hF dX11_isProvedBy_26 rfl (by first | rfl | exact bi_n _) (congrArg some (congrArg Value.int (by simp only [ipB, h_1, h_2, decide_true, decide_false, Bool.true_and, Bool.false_and, Bool.and_true, Bool.and_false, Bool.not_true, Bool.not_false, Bool.or_true, Bool.true_or, Bool.false_or, Bool.or_false, bi_t, bi_f]))) (by rfl)
theorem cm_X11_likeInKnown {G : ab_G} (hG : ab_GG G) {h : List ab_E} {w : Int64} {world : Int32} {known : Int32}  : ab_CM G mX11_likeInKnown [.long w, .int world, .int known] h (some (.long (lkI w world known))) h := by
  refine ab_meth (l0 := [(0, .long w), (2, .int world), (3, .int known)]) hG (by decide +kernel) rfl (Nat.le_of_ble_eq_true rfl) (Nat.le_refl _) (Nat.le_refl _) (fun X hX hF => ?_)
  refine ab_lload_n hX dX11_likeInKnown_0 mm0 ?_
  refine ab_lstore hX dX11_likeInKnown_1 (by decide) rfl ?_
  refine ab_iconst (v := 0) hX dX11_likeInKnown_3 (by decide) ?_
  refine ab_istore hX dX11_likeInKnown_4 (by decide) rfl ?_
  have L6 : ∀ (k6_ : Nat) (i : Nat) (hi_ : i ≤ 6), k6_ = 6 - i → ab_WA G mX11_likeInKnown X 6 [(2, .int world), (3, .int known), (4, .long (acc (lkF world known) w i)), (6, .int (nI i))] [] h := by
    intro k6_
    induction k6_ using Nat.strongRecOn with
    | _ k6_ ih6 =>
      intro i hi_ hk6_
      refine ab_iload hX dX11_likeInKnown_6 mm3 ?_
      refine ab_bipush (v := 6) hX dX11_likeInKnown_8 (by decide) ?_
      refine ab_icmpge (tgt := 61) hX dX11_likeInKnown_10 (by decide) (fun h_1 => ?_) (fun h_1 => ?_)
      ·
        have hx_ := ctE (N := 6) h_1 (by rfl) (by omega) (by omega)
        obtain rfl : 6 = i := by omega
        refine ab_lload hX dX11_likeInKnown_61 mm2 ?_
        exact ab_lreturn hX hF dX11_likeInKnown_63 rfl (congrArg some (congrArg Value.long (by rfl))) (by rfl)
      ·
        have hlt_ := ctL (N := 6) h_1 (by rfl) (by omega) (by omega)
        refine ab_iload_n hX dX11_likeInKnown_13 mm1 ?_
        refine ab_iload hX dX11_likeInKnown_14 mm3 ?_
        refine ab_callS1r hX dX11_likeInKnown_16 ss_X11_likeInKnown_402 (cm_X11_factBit hG) (Nat.le_of_ble_eq_true rfl) ?_
        refine ab_iand hX dX11_likeInKnown_19 ?_
        refine ab_ifeq (tgt := 55) hX dX11_likeInKnown_20 (by decide) (fun h_2 => ?_) (fun h_2 => ?_)
        ·
          refine ab_iinc hX dX11_likeInKnown_55 mm3 rfl (by decide) rfl ?_
          refine ab_goto (tgt := 6) hX dX11_likeInKnown_58 (by decide) ?_
          exact ab_pm4 (mmv1 (congrArg Value.int (by first | exact (nI_1 _).symm | rfl | (rw [acc_s]; first | rfl | (simp only [lkF, h_1, h_2, ↓reduceIte, Bool.false_eq_true]; done) | (simp only [lkF, h_1, h_2, ↓reduceIte, Bool.false_eq_true]; rfl))))) (mmv2 (congrArg Value.int (by first | exact (nI_1 _).symm | rfl | (rw [acc_s]; first | rfl | (simp only [lkF, h_1, h_2, ↓reduceIte, Bool.false_eq_true]; done) | (simp only [lkF, h_1, h_2, ↓reduceIte, Bool.false_eq_true]; rfl))))) (mmv3 (congrArg Value.long (by first | exact (nI_1 _).symm | rfl | (rw [acc_s]; first | rfl | (simp only [lkF, h_1, h_2, ↓reduceIte, Bool.false_eq_true]; done) | (simp only [lkF, h_1, h_2, ↓reduceIte, Bool.false_eq_true]; rfl))))) (mmv0 (congrArg Value.int (by first | exact (nI_1 _).symm | rfl | (rw [acc_s]; first | rfl | (simp only [lkF, h_1, h_2, ↓reduceIte, Bool.false_eq_true]; done) | (simp only [lkF, h_1, h_2, ↓reduceIte, Bool.false_eq_true]; rfl))))) (ih6 (_) (by omega) (i + 1) (by omega) rfl)
        ·
          refine ab_lload hX dX11_likeInKnown_23 mm2 ?_
          refine ab_iload_n hX dX11_likeInKnown_25 mm0 ?_
          refine ab_iload hX dX11_likeInKnown_26 mm3 ?_
          refine ab_callS1r hX dX11_likeInKnown_28 ss_X11_likeInKnown_402 (cm_X11_factBit hG) (Nat.le_of_ble_eq_true rfl) ?_
          refine ab_iand hX dX11_likeInKnown_31 ?_
          refine ab_ifeq (tgt := 43) hX dX11_likeInKnown_32 (by decide) (fun h_3 => ?_) (fun h_3 => ?_)
          ·
            refine ab_iload hX dX11_likeInKnown_43 mm3 ?_
            refine ab_callS1r hX dX11_likeInKnown_45 ss_X11_likeInKnown_233 (cm_X11_worldsWith hG) (Nat.le_of_ble_eq_true rfl) ?_
            refine ab_ldc2 hX dX11_likeInKnown_48 tw_620 ?_
            refine ab_lxor hX dX11_likeInKnown_51 ?_
            refine ab_land hX dX11_likeInKnown_52 ?_
            refine ab_lstore hX dX11_likeInKnown_53 (by decide) rfl ?_
            refine ab_iinc hX dX11_likeInKnown_55 mm3 rfl (by decide) rfl ?_
            refine ab_goto (tgt := 6) hX dX11_likeInKnown_58 (by decide) ?_
            exact ab_pm4 (mmv2 (congrArg Value.int (by first | exact (nI_1 _).symm | rfl | (rw [acc_s]; first | rfl | (simp only [lkF, h_1, h_2, h_3, ↓reduceIte, Bool.false_eq_true]; done) | (simp only [lkF, h_1, h_2, h_3, ↓reduceIte, Bool.false_eq_true]; rfl))))) (mmv3 (congrArg Value.int (by first | exact (nI_1 _).symm | rfl | (rw [acc_s]; first | rfl | (simp only [lkF, h_1, h_2, h_3, ↓reduceIte, Bool.false_eq_true]; done) | (simp only [lkF, h_1, h_2, h_3, ↓reduceIte, Bool.false_eq_true]; rfl))))) (mmv1 (congrArg Value.long (by first | exact (nI_1 _).symm | rfl | (rw [acc_s]; first | rfl | (simp only [lkF, h_1, h_2, h_3, ↓reduceIte, Bool.false_eq_true]; done) | (simp only [lkF, h_1, h_2, h_3, ↓reduceIte, Bool.false_eq_true]; rfl))))) (mmv0 (congrArg Value.int (by first | exact (nI_1 _).symm | rfl | (rw [acc_s]; first | rfl | (simp only [lkF, h_1, h_2, h_3, ↓reduceIte, Bool.false_eq_true]; done) | (simp only [lkF, h_1, h_2, h_3, ↓reduceIte, Bool.false_eq_true]; rfl))))) (ih6 (_) (by omega) (i + 1) (by omega) rfl)
          ·
            refine ab_iload hX dX11_likeInKnown_35 mm3 ?_
            refine ab_callS1r hX dX11_likeInKnown_37 ss_X11_likeInKnown_233 (cm_X11_worldsWith hG) (Nat.le_of_ble_eq_true rfl) ?_
            refine ab_goto (tgt := 52) hX dX11_likeInKnown_40 (by decide) ?_
            refine ab_land hX dX11_likeInKnown_52 ?_
            refine ab_lstore hX dX11_likeInKnown_53 (by decide) rfl ?_
            refine ab_iinc hX dX11_likeInKnown_55 mm3 rfl (by decide) rfl ?_
            refine ab_goto (tgt := 6) hX dX11_likeInKnown_58 (by decide) ?_
            exact ab_pm4 (mmv2 (congrArg Value.int (by first | exact (nI_1 _).symm | rfl | (rw [acc_s]; first | rfl | (simp only [lkF, h_1, h_2, h_3, ↓reduceIte, Bool.false_eq_true]; done) | (simp only [lkF, h_1, h_2, h_3, ↓reduceIte, Bool.false_eq_true]; rfl))))) (mmv3 (congrArg Value.int (by first | exact (nI_1 _).symm | rfl | (rw [acc_s]; first | rfl | (simp only [lkF, h_1, h_2, h_3, ↓reduceIte, Bool.false_eq_true]; done) | (simp only [lkF, h_1, h_2, h_3, ↓reduceIte, Bool.false_eq_true]; rfl))))) (mmv1 (congrArg Value.long (by first | exact (nI_1 _).symm | rfl | (rw [acc_s]; first | rfl | (simp only [lkF, h_1, h_2, h_3, ↓reduceIte, Bool.false_eq_true]; done) | (simp only [lkF, h_1, h_2, h_3, ↓reduceIte, Bool.false_eq_true]; rfl))))) (mmv0 (congrArg Value.int (by first | exact (nI_1 _).symm | rfl | (rw [acc_s]; first | rfl | (simp only [lkF, h_1, h_2, h_3, ↓reduceIte, Bool.false_eq_true]; done) | (simp only [lkF, h_1, h_2, h_3, ↓reduceIte, Bool.false_eq_true]; rfl))))) (ih6 (_) (by omega) (i + 1) (by omega) rfl)
  exact ab_pm4 (mmv3 (congrArg Value.int (by rfl))) (mmv4 (congrArg Value.int (by rfl))) (mmv1 (congrArg Value.long (by rfl))) (mmv0 (congrArg Value.int (by rfl))) (L6 _ 0 (by omega) rfl)
theorem cm_X11_digitsBehind {G : ab_G} (hG : ab_GG G) {h : List ab_E} {x : Int32}  : ab_CM G mX11_digitsBehind [.int x] h (some (.int (dgC x))) h := by
  refine ab_meth (l0 := [(0, .int x)]) hG (by decide +kernel) rfl (Nat.le_of_ble_eq_true rfl) (Nat.le_refl _) (Nat.le_refl _) (fun X hX hF => ?_)
  refine ab_iload_n hX dX11_digitsBehind_0 mm0 ?_
  by_cases h_1 : x = 108
  ·
    refine ab_ls (off := 43) (tgt := 44) hX dX11_digitsBehind_1 (by decide) (by rw [h_1]; decide) (by decide) ?_
    refine ab_iconst (v := 4) hX dX11_digitsBehind_44 (by decide) ?_
    exact ab_ireturn hX hF dX11_digitsBehind_45 rfl (by rfl) (congrArg some (congrArg Value.int (by simp [dgC, h_1]))) (by rfl)
  ·
    by_cases h_2 : x = 115
    ·
      refine ab_ls (off := 47) (tgt := 48) hX dX11_digitsBehind_1 (by decide) (by rw [h_2]; decide) (by decide) ?_
      refine ab_iconst (v := 5) hX dX11_digitsBehind_48 (by decide) ?_
      exact ab_ireturn hX hF dX11_digitsBehind_49 rfl (by rfl) (congrArg some (congrArg Value.int (by simp [dgC, h_1, h_2]))) (by rfl)
    ·
      by_cases h_3 : x = 116
      ·
        refine ab_ls (off := 45) (tgt := 46) hX dX11_digitsBehind_1 (by decide) (by rw [h_3]; decide) (by decide) ?_
        refine ab_iconst (v := 2) hX dX11_digitsBehind_46 (by decide) ?_
        exact ab_ireturn hX hF dX11_digitsBehind_47 rfl (by rfl) (congrArg some (congrArg Value.int (by simp [dgC, h_1, h_2, h_3]))) (by rfl)
      ·
        by_cases h_4 : x = 119
        ·
          refine ab_ls (off := 45) (tgt := 46) hX dX11_digitsBehind_1 (by decide) (by rw [h_4]; decide) (by decide) ?_
          refine ab_iconst (v := 2) hX dX11_digitsBehind_46 (by decide) ?_
          exact ab_ireturn hX hF dX11_digitsBehind_47 rfl (by rfl) (congrArg some (congrArg Value.int (by simp [dgC, h_1, h_2, h_3, h_4]))) (by rfl)
        ·
          refine ab_ls (off := 49) (tgt := 50) hX dX11_digitsBehind_1 (by decide) (by show Op.lookupswitch.offset [(108, 43), (115, 47), (116, 45), (119, 45)] 49 _ = _; rw [lv_osw (a := 108) h_1 rfl, lv_osw (a := 115) h_2 rfl, lv_osw (a := 116) h_3 rfl, lv_osw (a := 119) h_4 rfl]; rfl) (by decide) ?_
          refine ab_iconst (v := (-1)) hX dX11_digitsBehind_50 (by decide) ?_
          exact ab_ireturn hX hF dX11_digitsBehind_51 rfl (by rfl) (congrArg some (congrArg Value.int (by simp [dgC, h_1, h_2, h_3, h_4]))) (by rfl)
theorem cm_X11_isDigit {G : ab_G} (hG : ab_GG G) {h : List ab_E} {x : Int32}  : ab_CM G mX11_isDigit [.int x] h (some (.int (bi (isD x)))) h := by
  refine ab_meth (l0 := [(0, .int x)]) hG (by decide +kernel) rfl (Nat.le_of_ble_eq_true rfl) (Nat.le_refl _) (Nat.le_refl _) (fun X hX hF => ?_)
  refine ab_iload_n hX dX11_isDigit_0 mm0 ?_
  refine ab_bipush (v := 48) hX dX11_isDigit_1 (by decide) ?_
  refine ab_icmplt (tgt := 16) hX dX11_isDigit_3 (by decide) (fun h_1 => ?_) (fun h_1 => ?_)
  ·
    refine ab_iconst (v := 0) hX dX11_isDigit_16 (by decide) ?_
    exact ab_ireturn hX hF dX11_isDigit_17 rfl (by first | rfl | exact bi_n _) (congrArg some (congrArg Value.int (by simp [bi_t, bi_f, isD, h_1]))) (by rfl)
  ·
    refine ab_iload_n hX dX11_isDigit_6 mm0 ?_
    refine ab_bipush (v := 57) hX dX11_isDigit_7 (by decide) ?_
    refine ab_icmpgt (tgt := 16) hX dX11_isDigit_9 (by decide) (fun h_2 => ?_) (fun h_2 => ?_)
    ·
      refine ab_iconst (v := 0) hX dX11_isDigit_16 (by decide) ?_
      exact ab_ireturn hX hF dX11_isDigit_17 rfl (by first | rfl | exact bi_n _) (congrArg some (congrArg Value.int (by simp [bi_t, bi_f, isD, h_1, h_2]))) (by rfl)
    ·
      refine ab_iconst (v := 1) hX dX11_isDigit_12 (by decide) ?_
      refine ab_goto (tgt := 17) hX dX11_isDigit_13 (by decide) ?_
      exact ab_ireturn hX hF dX11_isDigit_17 rfl (by first | rfl | exact bi_n _) (congrArg some (congrArg Value.int (by simp [bi_t, bi_f, isD, h_1, h_2]))) (by rfl)
theorem cm_X11_kindOfCode {G : ab_G} (hG : ab_GG G) {h : List ab_E} {x : Int32}  : ab_CM G mX11_kindOfCode [.int x] h (some (.int (x / 36))) h := by
  refine ab_meth (l0 := [(0, .int x)]) hG (by decide +kernel) rfl (Nat.le_of_ble_eq_true rfl) (Nat.le_refl _) (Nat.le_refl _) (fun X hX hF => ?_)
  refine ab_iload_n hX dX11_kindOfCode_0 mm0 ?_
  refine ab_bipush (v := 36) hX dX11_kindOfCode_1 (by decide) ?_
  refine ab_idiv hX dX11_kindOfCode_3 (by decide) ?_
  exact ab_ireturn hX hF dX11_kindOfCode_4 rfl (by rfl) (congrArg some (congrArg Value.int (by rfl))) (by rfl)
theorem cm_X11_firstOfCode {G : ab_G} (hG : ab_GG G) {h : List ab_E} {x : Int32}  : ab_CM G mX11_firstOfCode [.int x] h (some (.int (x / 6 - x / 6 / 6 * 6))) h := by
  refine ab_meth (l0 := [(0, .int x)]) hG (by decide +kernel) rfl (Nat.le_of_ble_eq_true rfl) (Nat.le_refl _) (Nat.le_refl _) (fun X hX hF => ?_)
  refine ab_iload_n hX dX11_firstOfCode_0 mm0 ?_
  refine ab_bipush (v := 6) hX dX11_firstOfCode_1 (by decide) ?_
  refine ab_idiv hX dX11_firstOfCode_3 (by decide) ?_
  refine ab_bipush (v := 6) hX dX11_firstOfCode_4 (by decide) ?_
  refine ab_irem hX dX11_firstOfCode_6 (by decide) ?_
  exact ab_ireturn hX hF dX11_firstOfCode_7 rfl (by rfl) (congrArg some (congrArg Value.int (by rfl))) (by rfl)
theorem cm_X11_secondOfCode {G : ab_G} (hG : ab_GG G) {h : List ab_E} {x : Int32}  : ab_CM G mX11_secondOfCode [.int x] h (some (.int (x - x / 6 * 6))) h := by
  refine ab_meth (l0 := [(0, .int x)]) hG (by decide +kernel) rfl (Nat.le_of_ble_eq_true rfl) (Nat.le_refl _) (Nat.le_refl _) (fun X hX hF => ?_)
  refine ab_iload_n hX dX11_secondOfCode_0 mm0 ?_
  refine ab_bipush (v := 6) hX dX11_secondOfCode_1 (by decide) ?_
  refine ab_irem hX dX11_secondOfCode_3 (by decide) ?_
  exact ab_ireturn hX hF dX11_secondOfCode_4 rfl (by rfl) (congrArg some (congrArg Value.int (by rfl))) (by rfl)
theorem wdiv : ∀ i, i < 12 → ¬ (nI (i + 1)).toInt64 = 0 := by decide +kernel
theorem gdC_0 {k : Nat} {x y : Int64} (h : y = 0) : gdC k x y = x := by
  cases k with
  | zero => rfl
  | succ k => rw [gdC, if_pos h]
theorem cm_X11_nextSeed {G : ab_G} (hG : ab_GG G) {h : List ab_E} {x : Int32}  : ab_CM G mX11_nextSeed [.int x] h (some (.int (nxS x))) h := by
  refine ab_meth (l0 := [(0, .int x)]) hG (by decide +kernel) rfl (Nat.le_of_ble_eq_true rfl) (Nat.le_refl _) (Nat.le_refl _) (fun X hX hF => ?_)
  refine ab_iload_n hX dX11_nextSeed_0 mm0 ?_
  refine ab_ldcw hX dX11_nextSeed_1 tw_743 ?_
  refine ab_imul hX dX11_nextSeed_4 ?_
  refine ab_sipush (v := 12345) hX dX11_nextSeed_5 (by decide) ?_
  refine ab_iadd hX dX11_nextSeed_8 ?_
  exact ab_ireturn hX hF dX11_nextSeed_9 rfl (by rfl) (congrArg some (congrArg Value.int (by rfl))) (by rfl)
theorem cm_X11_drawnBelow {G : ab_G} (hG : ab_GG G) {h : List ab_E} {n : Int32} {x : Int32}  : ab_CM G mX11_drawnBelow [.int n, .int x] h (some (.int (drB n x))) h := by
  refine ab_meth (l0 := [(0, .int n), (1, .int x)]) hG (by decide +kernel) rfl (Nat.le_of_ble_eq_true rfl) (Nat.le_refl _) (Nat.le_refl _) (fun X hX hF => ?_)
  refine ab_iload_n hX dX11_drawnBelow_0 mm0 ?_
  refine ab_ifgt (tgt := 8) hX dX11_drawnBelow_1 (by decide) (fun h_1 => ?_) (fun h_1 => ?_)
  ·
    refine ab_iload_n hX dX11_drawnBelow_8 mm1 ?_
    refine ab_ldcw hX dX11_drawnBelow_9 tw_747 ?_
    refine ab_iand hX dX11_drawnBelow_12 ?_
    refine ab_ldcw hX dX11_drawnBelow_13 tw_748 ?_
    refine ab_idiv hX dX11_drawnBelow_16 (by decide) ?_
    refine ab_iload_n hX dX11_drawnBelow_17 mm0 ?_
    refine ab_irem hX dX11_drawnBelow_18 (by intro e; rw [e] at h_1; exact absurd h_1 (by decide)) ?_
    exact ab_ireturn hX hF dX11_drawnBelow_19 rfl (by rfl) (congrArg some (congrArg Value.int (by simp only [drB, h_1, ↓reduceIte]))) (by rfl)
  ·
    refine ab_iconst (v := 0) hX dX11_drawnBelow_4 (by decide) ?_
    refine ab_goto (tgt := 19) hX dX11_drawnBelow_5 (by decide) ?_
    exact ab_ireturn hX hF dX11_drawnBelow_19 rfl (by rfl) (congrArg some (congrArg Value.int (by simp only [drB, h_1, ↓reduceIte]))) (by rfl)
theorem cm_X11_seedAfterDraws {G : ab_G} (hG : ab_GG G) {h : List ab_E} {x : Int32}  : ab_CM G mX11_seedAfterDraws [.int x] h (some (.int (nxS (nxS (nxS (nxS x)))))) h := by
  refine ab_meth (l0 := [(0, .int x)]) hG (by decide +kernel) rfl (Nat.le_of_ble_eq_true rfl) (Nat.le_refl _) (Nat.le_refl _) (fun X hX hF => ?_)
  refine ab_iload_n hX dX11_seedAfterDraws_0 mm0 ?_
  refine ab_callS1r hX dX11_seedAfterDraws_1 ss_X11_seedAfterDraws_441 (cm_X11_nextSeed hG) (Nat.le_of_ble_eq_true rfl) ?_
  refine ab_callS1r hX dX11_seedAfterDraws_4 ss_X11_seedAfterDraws_441 (cm_X11_nextSeed hG) (Nat.le_of_ble_eq_true rfl) ?_
  refine ab_callS1r hX dX11_seedAfterDraws_7 ss_X11_seedAfterDraws_441 (cm_X11_nextSeed hG) (Nat.le_of_ble_eq_true rfl) ?_
  refine ab_callS1r hX dX11_seedAfterDraws_10 ss_X11_seedAfterDraws_441 (cm_X11_nextSeed hG) (Nat.le_of_ble_eq_true rfl) ?_
  exact ab_ireturn hX hF dX11_seedAfterDraws_13 rfl (by rfl) (congrArg some (congrArg Value.int (by rfl))) (by rfl)
theorem cm_X8_trueWorlds {G : ab_G} (hG : ab_GG G) {h : List ab_E} {b ci : Nat} {fs : List Value} {q : vw_C} (hc : h[b]? = some (.inr (ci, fs))) (hq : ab_cls[ci]? = some q) {wa : Int64} {wb : Int64} {wf : Int64}  : ab_CM G mX8_trueWorlds [.ref b, .long wa, .long wb, .long wf] h (some (.long (wa))) h := by
  refine ab_meth (l0 := [(0, .ref b), (1, .long wa), (3, .long wb), (5, .long wf)]) hG (by decide +kernel) rfl (Nat.le_of_ble_eq_true rfl) (Nat.le_refl _) (Nat.le_refl _) (fun X hX hF => ?_)
  refine ab_lload_n hX dX8_trueWorlds_0 mm1 ?_
  exact ab_lreturn hX hF dX8_trueWorlds_1 rfl (congrArg some (congrArg Value.long (by rfl))) (by rfl)
theorem cm_X2_trueWorlds {G : ab_G} (hG : ab_GG G) {h : List ab_E} {b ci : Nat} {fs : List Value} {q : vw_C} (hc : h[b]? = some (.inr (ci, fs))) (hq : ab_cls[ci]? = some q) {wa : Int64} {wb : Int64} {wf : Int64}  : ab_CM G mX2_trueWorlds [.ref b, .long wa, .long wb, .long wf] h (some (.long (wa ^^^ (-1)))) h := by
  refine ab_meth (l0 := [(0, .ref b), (1, .long wa), (3, .long wb), (5, .long wf)]) hG (by decide +kernel) rfl (Nat.le_of_ble_eq_true rfl) (Nat.le_refl _) (Nat.le_refl _) (fun X hX hF => ?_)
  refine ab_lload_n hX dX2_trueWorlds_0 mm1 ?_
  refine ab_ldc2 hX dX2_trueWorlds_1 tw_391 ?_
  refine ab_lxor hX dX2_trueWorlds_4 ?_
  exact ab_lreturn hX hF dX2_trueWorlds_5 rfl (congrArg some (congrArg Value.long (by rfl))) (by rfl)
theorem cm_X1_trueWorlds {G : ab_G} (hG : ab_GG G) {h : List ab_E} {b ci : Nat} {fs : List Value} {q : vw_C} (hc : h[b]? = some (.inr (ci, fs))) (hq : ab_cls[ci]? = some q) {wa : Int64} {wb : Int64} {wf : Int64}  : ab_CM G mX1_trueWorlds [.ref b, .long wa, .long wb, .long wf] h (some (.long (wa &&& wb))) h := by
  refine ab_meth (l0 := [(0, .ref b), (1, .long wa), (3, .long wb), (5, .long wf)]) hG (by decide +kernel) rfl (Nat.le_of_ble_eq_true rfl) (Nat.le_refl _) (Nat.le_refl _) (fun X hX hF => ?_)
  refine ab_lload_n hX dX1_trueWorlds_0 mm1 ?_
  refine ab_lload_n hX dX1_trueWorlds_1 mm2 ?_
  refine ab_land hX dX1_trueWorlds_2 ?_
  exact ab_lreturn hX hF dX1_trueWorlds_3 rfl (congrArg some (congrArg Value.long (by rfl))) (by rfl)
theorem cm_X3_trueWorlds {G : ab_G} (hG : ab_GG G) {h : List ab_E} {b ci : Nat} {fs : List Value} {q : vw_C} (hc : h[b]? = some (.inr (ci, fs))) (hq : ab_cls[ci]? = some q) {wa : Int64} {wb : Int64} {wf : Int64}  : ab_CM G mX3_trueWorlds [.ref b, .long wa, .long wb, .long wf] h (some (.long (wa ||| wb))) h := by
  refine ab_meth (l0 := [(0, .ref b), (1, .long wa), (3, .long wb), (5, .long wf)]) hG (by decide +kernel) rfl (Nat.le_of_ble_eq_true rfl) (Nat.le_refl _) (Nat.le_refl _) (fun X hX hF => ?_)
  refine ab_lload_n hX dX3_trueWorlds_0 mm1 ?_
  refine ab_lload_n hX dX3_trueWorlds_1 mm2 ?_
  refine ab_lor hX dX3_trueWorlds_2 ?_
  exact ab_lreturn hX hF dX3_trueWorlds_3 rfl (congrArg some (congrArg Value.long (by rfl))) (by rfl)
theorem cm_X5_trueWorlds {G : ab_G} (hG : ab_GG G) {h : List ab_E} {b ci : Nat} {fs : List Value} {q : vw_C} (hc : h[b]? = some (.inr (ci, fs))) (hq : ab_cls[ci]? = some q) {wa : Int64} {wb : Int64} {wf : Int64}  : ab_CM G mX5_trueWorlds [.ref b, .long wa, .long wb, .long wf] h (some (.long ((wa ^^^ (-1)) ||| wb))) h := by
  refine ab_meth (l0 := [(0, .ref b), (1, .long wa), (3, .long wb), (5, .long wf)]) hG (by decide +kernel) rfl (Nat.le_of_ble_eq_true rfl) (Nat.le_refl _) (Nat.le_refl _) (fun X hX hF => ?_)
  refine ab_lload_n hX dX5_trueWorlds_0 mm1 ?_
  refine ab_ldc2 hX dX5_trueWorlds_1 tw_401 ?_
  refine ab_lxor hX dX5_trueWorlds_4 ?_
  refine ab_lload_n hX dX5_trueWorlds_5 mm2 ?_
  refine ab_lor hX dX5_trueWorlds_6 ?_
  exact ab_lreturn hX hF dX5_trueWorlds_7 rfl (congrArg some (congrArg Value.long (by rfl))) (by rfl)
theorem cm_X0_trueWorlds {G : ab_G} (hG : ab_GG G) {h : List ab_E} {b ci : Nat} {fs : List Value} {q : vw_C} (hc : h[b]? = some (.inr (ci, fs))) (hq : ab_cls[ci]? = some q) {wa : Int64} {wb : Int64} {wf : Int64}  : ab_CM G mX0_trueWorlds [.ref b, .long wa, .long wb, .long wf] h (some (.long ((wa ^^^ wb) ^^^ (-1)))) h := by
  refine ab_meth (l0 := [(0, .ref b), (1, .long wa), (3, .long wb), (5, .long wf)]) hG (by decide +kernel) rfl (Nat.le_of_ble_eq_true rfl) (Nat.le_refl _) (Nat.le_refl _) (fun X hX hF => ?_)
  refine ab_lload_n hX dX0_trueWorlds_0 mm1 ?_
  refine ab_lload_n hX dX0_trueWorlds_1 mm2 ?_
  refine ab_lxor hX dX0_trueWorlds_2 ?_
  refine ab_ldc2 hX dX0_trueWorlds_3 tw_384 ?_
  refine ab_lxor hX dX0_trueWorlds_6 ?_
  exact ab_lreturn hX hF dX0_trueWorlds_7 rfl (congrArg some (congrArg Value.long (by rfl))) (by rfl)
theorem cm_X4_trueWorlds {G : ab_G} (hG : ab_GG G) {h : List ab_E} {b ci : Nat} {fs : List Value} {q : vw_C} (hc : h[b]? = some (.inr (ci, fs))) (hq : ab_cls[ci]? = some q) {wa : Int64} {wb : Int64} {wf : Int64}  : ab_CM G mX4_trueWorlds [.ref b, .long wa, .long wb, .long wf] h (some (.long (0))) h := by
  refine ab_meth (l0 := [(0, .ref b), (1, .long wa), (3, .long wb), (5, .long wf)]) hG (by decide +kernel) rfl (Nat.le_of_ble_eq_true rfl) (Nat.le_refl _) (Nat.le_refl _) (fun X hX hF => ?_)
  refine ab_lconst (v := 0) hX dX4_trueWorlds_0 rfl ?_
  exact ab_lreturn hX hF dX4_trueWorlds_1 rfl (congrArg some (congrArg Value.long (by rfl))) (by rfl)
theorem cm_X6_trueWorlds {G : ab_G} (hG : ab_GG G) {h : List ab_E} {b ci : Nat} {fs : List Value} {q : vw_C} (hc : h[b]? = some (.inr (ci, fs))) (hq : ab_cls[ci]? = some q) {wa : Int64} {wb : Int64} {wf : Int64}  : ab_CM G mX6_trueWorlds [.ref b, .long wa, .long wb, .long wf] h (some (.long ((wa ||| wb) ||| wf))) h := by
  refine ab_meth (l0 := [(0, .ref b), (1, .long wa), (3, .long wb), (5, .long wf)]) hG (by decide +kernel) rfl (Nat.le_of_ble_eq_true rfl) (Nat.le_refl _) (Nat.le_refl _) (fun X hX hF => ?_)
  refine ab_lload_n hX dX6_trueWorlds_0 mm1 ?_
  refine ab_lload_n hX dX6_trueWorlds_1 mm2 ?_
  refine ab_lor hX dX6_trueWorlds_2 ?_
  refine ab_lload hX dX6_trueWorlds_3 mm3 ?_
  refine ab_lor hX dX6_trueWorlds_5 ?_
  exact ab_lreturn hX hF dX6_trueWorlds_6 rfl (congrArg some (congrArg Value.long (by rfl))) (by rfl)
theorem cm_X8_words {G : ab_G} (hG : ab_GG G) {h : List ab_E} {b ci : Nat} {fs : List Value} {q : vw_C} (hc : h[b]? = some (.inr (ci, fs))) (hq : ab_cls[ci]? = some q) {f : Int32}  : ab_CM G mX8_words [.ref b, .int f] h (some (.int (3))) h := by
  refine ab_meth (l0 := [(0, .ref b), (1, .int f)]) hG (by decide +kernel) rfl (Nat.le_of_ble_eq_true rfl) (Nat.le_refl _) (Nat.le_refl _) (fun X hX hF => ?_)
  refine ab_iconst (v := 3) hX dX8_words_0 (by decide) ?_
  exact ab_ireturn hX hF dX8_words_1 rfl (by rfl) (congrArg some (congrArg Value.int (by rfl))) (by rfl)
theorem cm_X2_words {G : ab_G} (hG : ab_GG G) {h : List ab_E} {b ci : Nat} {fs : List Value} {q : vw_C} (hc : h[b]? = some (.inr (ci, fs))) (hq : ab_cls[ci]? = some q) {f : Int32}  : ab_CM G mX2_words [.ref b, .int f] h (some (.int (3 + 1))) h := by
  refine ab_meth (l0 := [(0, .ref b), (1, .int f)]) hG (by decide +kernel) rfl (Nat.le_of_ble_eq_true rfl) (Nat.le_refl _) (Nat.le_refl _) (fun X hX hF => ?_)
  refine ab_aload_n hX dX2_words_0 mm0 ?_
  refine ab_iload_n hX dX2_words_1 mm1 ?_
  refine ab_callP1r hX dX2_words_2 hc hq ss_X2_words_9 (cm_X8_words hG hc hq) (Nat.le_of_ble_eq_true rfl) ?_
  refine ab_iconst (v := 1) hX dX2_words_5 (by decide) ?_
  refine ab_iadd hX dX2_words_6 ?_
  exact ab_ireturn hX hF dX2_words_7 rfl (by rfl) (congrArg some (congrArg Value.int (by rfl))) (by rfl)
theorem cm_X1_words {G : ab_G} (hG : ab_GG G) {h : List ab_E} {b ci : Nat} {fs : List Value} {q : vw_C} (hc : h[b]? = some (.inr (ci, fs))) (hq : ab_cls[ci]? = some q) {f : Int32}  : ab_CM G mX1_words [.ref b, .int f] h (some (.int (3 + 2))) h := by
  refine ab_meth (l0 := [(0, .ref b), (1, .int f)]) hG (by decide +kernel) rfl (Nat.le_of_ble_eq_true rfl) (Nat.le_refl _) (Nat.le_refl _) (fun X hX hF => ?_)
  refine ab_aload_n hX dX1_words_0 mm0 ?_
  refine ab_iload_n hX dX1_words_1 mm1 ?_
  refine ab_callP1r hX dX1_words_2 hc hq ss_X1_words_7 (cm_X8_words hG hc hq) (Nat.le_of_ble_eq_true rfl) ?_
  refine ab_iconst (v := 2) hX dX1_words_5 (by decide) ?_
  refine ab_iadd hX dX1_words_6 ?_
  exact ab_ireturn hX hF dX1_words_7 rfl (by rfl) (congrArg some (congrArg Value.int (by rfl))) (by rfl)
theorem cm_X3_words {G : ab_G} (hG : ab_GG G) {h : List ab_E} {b ci : Nat} {fs : List Value} {q : vw_C} (hc : h[b]? = some (.inr (ci, fs))) (hq : ab_cls[ci]? = some q) {f : Int32}  : ab_CM G mX3_words [.ref b, .int f] h (some (.int (3 + 2 + 1))) h := by
  refine ab_meth (l0 := [(0, .ref b), (1, .int f)]) hG (by decide +kernel) rfl (Nat.le_of_ble_eq_true rfl) (Nat.le_refl _) (Nat.le_refl _) (fun X hX hF => ?_)
  refine ab_aload_n hX dX3_words_0 mm0 ?_
  refine ab_iload_n hX dX3_words_1 mm1 ?_
  refine ab_callP1r hX dX3_words_2 hc hq ss_X3_words_7 (cm_X1_words hG hc hq) (Nat.le_of_ble_eq_true rfl) ?_
  refine ab_iconst (v := 1) hX dX3_words_5 (by decide) ?_
  refine ab_iadd hX dX3_words_6 ?_
  exact ab_ireturn hX hF dX3_words_7 rfl (by rfl) (congrArg some (congrArg Value.int (by rfl))) (by rfl)
theorem cm_X5_words {G : ab_G} (hG : ab_GG G) {h : List ab_E} {b ci : Nat} {fs : List Value} {q : vw_C} (hc : h[b]? = some (.inr (ci, fs))) (hq : ab_cls[ci]? = some q) {f : Int32}  : ab_CM G mX5_words [.ref b, .int f] h (some (.int (2 * (3 + 2 + 1)))) h := by
  refine ab_meth (l0 := [(0, .ref b), (1, .int f)]) hG (by decide +kernel) rfl (Nat.le_of_ble_eq_true rfl) (Nat.le_refl _) (Nat.le_refl _) (fun X hX hF => ?_)
  refine ab_iconst (v := 2) hX dX5_words_0 (by decide) ?_
  refine ab_aload_n hX dX5_words_1 mm0 ?_
  refine ab_iload_n hX dX5_words_2 mm1 ?_
  refine ab_callP1r hX dX5_words_3 hc hq ss_X5_words_9 (cm_X3_words hG hc hq) (Nat.le_of_ble_eq_true rfl) ?_
  refine ab_imul hX dX5_words_6 ?_
  exact ab_ireturn hX hF dX5_words_7 rfl (by rfl) (congrArg some (congrArg Value.int (by rfl))) (by rfl)
theorem cm_X0_words {G : ab_G} (hG : ab_GG G) {h : List ab_E} {b ci : Nat} {fs : List Value} {q : vw_C} (hc : h[b]? = some (.inr (ci, fs))) (hq : ab_cls[ci]? = some q) {f : Int32}  : ab_CM G mX0_words [.ref b, .int f] h (some (.int (3 + 2 + 3))) h := by
  refine ab_meth (l0 := [(0, .ref b), (1, .int f)]) hG (by decide +kernel) rfl (Nat.le_of_ble_eq_true rfl) (Nat.le_refl _) (Nat.le_refl _) (fun X hX hF => ?_)
  refine ab_aload_n hX dX0_words_0 mm0 ?_
  refine ab_iload_n hX dX0_words_1 mm1 ?_
  refine ab_callP1r hX dX0_words_2 hc hq ss_X0_words_9 (cm_X1_words hG hc hq) (Nat.le_of_ble_eq_true rfl) ?_
  refine ab_iconst (v := 3) hX dX0_words_5 (by decide) ?_
  refine ab_iadd hX dX0_words_6 ?_
  exact ab_ireturn hX hF dX0_words_7 rfl (by rfl) (congrArg some (congrArg Value.int (by rfl))) (by rfl)
theorem cm_X4_words {G : ab_G} (hG : ab_GG G) {h : List ab_E} {b ci : Nat} {fs : List Value} {q : vw_C} (hc : h[b]? = some (.inr (ci, fs))) (hq : ab_cls[ci]? = some q) {f : Int32}  : ab_CM G mX4_words [.ref b, .int f] h (some (.int (3 + 1 + f))) h := by
  refine ab_meth (l0 := [(0, .ref b), (1, .int f)]) hG (by decide +kernel) rfl (Nat.le_of_ble_eq_true rfl) (Nat.le_refl _) (Nat.le_refl _) (fun X hX hF => ?_)
  refine ab_aload_n hX dX4_words_0 mm0 ?_
  refine ab_iload_n hX dX4_words_1 mm1 ?_
  refine ab_callP1r hX dX4_words_2 hc hq ss_X4_words_7 (cm_X2_words hG hc hq) (Nat.le_of_ble_eq_true rfl) ?_
  refine ab_iload_n hX dX4_words_5 mm1 ?_
  refine ab_iadd hX dX4_words_6 ?_
  exact ab_ireturn hX hF dX4_words_7 rfl (by rfl) (congrArg some (congrArg Value.int (by rfl))) (by rfl)
theorem cm_X6_words {G : ab_G} (hG : ab_GG G) {h : List ab_E} {b ci : Nat} {fs : List Value} {q : vw_C} (hc : h[b]? = some (.inr (ci, fs))) (hq : ab_cls[ci]? = some q) {f : Int32}  : ab_CM G mX6_words [.ref b, .int f] h (some (.int (3 + 2 + 1 + f))) h := by
  refine ab_meth (l0 := [(0, .ref b), (1, .int f)]) hG (by decide +kernel) rfl (Nat.le_of_ble_eq_true rfl) (Nat.le_refl _) (Nat.le_refl _) (fun X hX hF => ?_)
  refine ab_aload_n hX dX6_words_0 mm0 ?_
  refine ab_iload_n hX dX6_words_1 mm1 ?_
  refine ab_callP1r hX dX6_words_2 hc hq ss_X6_words_9 (cm_X3_words hG hc hq) (Nat.le_of_ble_eq_true rfl) ?_
  refine ab_iload_n hX dX6_words_5 mm1 ?_
  refine ab_iadd hX dX6_words_6 ?_
  exact ab_ireturn hX hF dX6_words_7 rfl (by rfl) (congrArg some (congrArg Value.int (by rfl))) (by rfl)
theorem cm_X8_facts {G : ab_G} (hG : ab_GG G) {h : List ab_E} {b ci : Nat} {fs : List Value} {q : vw_C} (hc : h[b]? = some (.inr (ci, fs))) (hq : ab_cls[ci]? = some q) {f : Int32} {a : Int32} {b0 : Int32}  : ab_CM G mX8_facts [.ref b, .int f, .int a, .int b0] h (some (.int (fb a))) h := by
  refine ab_meth (l0 := [(0, .ref b), (1, .int f), (2, .int a), (3, .int b0)]) hG (by decide +kernel) rfl (Nat.le_of_ble_eq_true rfl) (Nat.le_refl _) (Nat.le_refl _) (fun X hX hF => ?_)
  refine ab_iload_n hX dX8_facts_0 mm2 ?_
  refine ab_callS1r hX dX8_facts_1 ss_X8_facts_23 (cm_X11_factBit hG) (Nat.le_of_ble_eq_true rfl) ?_
  exact ab_ireturn hX hF dX8_facts_4 rfl (by rfl) (congrArg some (congrArg Value.int (by rfl))) (by rfl)
theorem cm_X1_facts {G : ab_G} (hG : ab_GG G) {h : List ab_E} {b ci : Nat} {fs : List Value} {q : vw_C} (hc : h[b]? = some (.inr (ci, fs))) (hq : ab_cls[ci]? = some q) {f : Int32} {a : Int32} {b0 : Int32}  : ab_CM G mX1_facts [.ref b, .int f, .int a, .int b0] h (some (.int (fb a ||| fb b0))) h := by
  refine ab_meth (l0 := [(0, .ref b), (1, .int f), (2, .int a), (3, .int b0)]) hG (by decide +kernel) rfl (Nat.le_of_ble_eq_true rfl) (Nat.le_refl _) (Nat.le_refl _) (fun X hX hF => ?_)
  refine ab_aload_n hX dX1_facts_0 mm0 ?_
  refine ab_iload_n hX dX1_facts_1 mm1 ?_
  refine ab_iload_n hX dX1_facts_2 mm2 ?_
  refine ab_iload_n hX dX1_facts_3 mm3 ?_
  refine ab_callP3r hX dX1_facts_4 hc hq ss_X1_facts_11 (cm_X8_facts hG hc hq) (Nat.le_of_ble_eq_true rfl) ?_
  refine ab_iload_n hX dX1_facts_7 mm3 ?_
  refine ab_callS1r hX dX1_facts_8 ss_X1_facts_15 (cm_X11_factBit hG) (Nat.le_of_ble_eq_true rfl) ?_
  refine ab_ior hX dX1_facts_11 ?_
  exact ab_ireturn hX hF dX1_facts_12 rfl (by rfl) (congrArg some (congrArg Value.int (by rfl))) (by rfl)
theorem sq_X6_facts : ab_sQ mX6_facts 13 mX1_facts 3 := ⟨⟨zc_X1_facts.1, zc_X1_facts.2.1, zc_X1_facts.2.2, by decide, by decide⟩, tw_519, by decide, "WitnessesMustLie$Either", tw_533, tw_534, tw_226, tw_194⟩
theorem cm_X6_facts {G : ab_G} (hG : ab_GG G) {h : List ab_E} {b ci : Nat} {fs : List Value} {q : vw_C} (hc : h[b]? = some (.inr (ci, fs))) (hq : ab_cls[ci]? = some q) {f : Int32} {a : Int32} {b0 : Int32}  : ab_CM G mX6_facts [.ref b, .int f, .int a, .int b0] h (some (.int ((fb a ||| fb b0) ||| fb (f - f / 6 * 6)))) h := by
  refine ab_meth (l0 := [(0, .ref b), (1, .int f), (2, .int a), (3, .int b0)]) hG (by decide +kernel) rfl (Nat.le_of_ble_eq_true rfl) (Nat.le_refl _) (Nat.le_refl _) (fun X hX hF => ?_)
  refine ab_aload_n hX dX6_facts_0 mm0 ?_
  refine ab_iload_n hX dX6_facts_1 mm1 ?_
  refine ab_iload_n hX dX6_facts_2 mm2 ?_
  refine ab_iload_n hX dX6_facts_3 mm3 ?_
  refine ab_callQ hX dX6_facts_4 hc hq sq_X6_facts (cm_X1_facts hG hc hq) (by rfl) (by rfl) (Nat.le_of_ble_eq_true rfl) ?_
  refine ab_iload_n hX dX6_facts_7 mm1 ?_
  refine ab_bipush (v := 6) hX dX6_facts_8 (by decide) ?_
  refine ab_irem hX dX6_facts_10 (by decide) ?_
  refine ab_callS1r hX dX6_facts_11 ss_X6_facts_17 (cm_X11_factBit hG) (Nat.le_of_ble_eq_true rfl) ?_
  refine ab_ior hX dX6_facts_14 ?_
  exact ab_ireturn hX hF dX6_facts_15 rfl (by rfl) (congrArg some (congrArg Value.int (by rfl))) (by rfl)
