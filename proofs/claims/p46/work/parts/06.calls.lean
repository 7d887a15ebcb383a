/-! Rules for calls, casts, statics. -/
theorem ab_tg_good {ws : List Cond} (h : ∀ w ∈ ws, w ∈ ab_Tg) : GoodIn ab_Tg ws := fun w hw => ⟨h w hw, good_of_word (List.mem_filter.mp (h w hw)).2⟩
theorem ab_ws_in {Z : ab_M} (hc : Cond.code Z.1 Z.2.1 Z.2.2.1 Z.2.2.2.1 ∈ ab_Tg) : ∀ w ∈ ab_ws Z, w ∈ ab_Tg := fun w hw => (List.mem_cons.mp hw).elim (fun e => by rw [e]; exact hc) id
/-- what every call asks: the callee's code, its room, its arguments -/
def ab_c0 (M Z : ab_M) (n : Nat) : Prop := Cond.code Z.1 Z.2.1 Z.2.2.1 Z.2.2.2.1 ∈ ab_Tg ∧ Cond.initialized Z.1.cls ∈ ab_Tg ∧ (Z.1.cls ≠ "java/lang/invoke/MethodHandle" ∧ Z.1.cls ≠ "java/lang/invoke/VarHandle" ∧ (parseMethodDescriptor Z.1.desc).map (fun d => d.parameters.length) = some n) ∧ Z.2.2.2.2.1 + 1 ≤ M.2.2.2.2.1 ∧ 8 + (Z.2.2.1 + 11) + Z.2.2.2.2.2 ≤ M.2.2.2.2.2
section GO
variable {p : Program} {l : Launch} {e : Env} {R : Room} {s : State} {m : MethodId} {args : Array Value} {below : List Frame} {meth : Method} {c : Code} {H : Heap} {locs : List Loc} {cells slots mc ms pc : Nat} {Q : State → Prop} {ls : Array Slot} {rest st0 : List Value}
theorem ab_cont {G : ab_G} {h1 : List ab_E} {r : Option Value} {a : Array Value}
    (hr : va_Run p l e R s m args below meth c H locs cells slots mc ms (F0 m pc ls st0) rest (ab_Qc G r h1 a) (ab_A G)) (hS : va_S (ab_A G) s.heap H locs)
    (kk : ∀ (H1 : Heap) (locs1 : List Loc), ab_RH G h1 H1 → va_S (ab_A G) s.heap H1 locs1 → W p l e R s m args below meth c H1 locs1 (cells + mc) (slots + ms) Q (F0 m (pc + 3) ls ((r.map (ab_ren G)).toList ++ rest))) : W p l e R s m args below meth c H locs cells slots Q (F0 m pc ls st0) := by
  intro T hT X
  obtain ⟨v, st₀, t, T', L, e0, X', hL, e1, e2, ⟨hv, hru, hz, hk⟩, st⟩ := hr T hT X
  cases hv
  rw [e0] at hz hk
  obtain ⟨t2, a1, b1⟩ := kk T'.heap (locs ++ L) (by rw [e1]; exact hru.1)
    ⟨Nat.le_trans hS.1 (by rw [e1]; exact hz), fun q h1 h2 => by rw [e1, hk q (Nat.lt_of_lt_of_le h1 hS.1) h2]; exact hS.2.1 q h1 h2, fun q hq => by
      rcases List.mem_append.mp hq with h | h
      · exact hS.2.2 q h
      · exact hL q h⟩ T' rfl X'
  exact ⟨t2, st t2 a1, b1⟩
end GO
theorem ab_blind (G : ab_G) (av : List Value) (h : List ab_E) : FrameBlind (va_Pc av (ab_RU G h)) := fun a U g mk q => ⟨q.1, q.2.1, q.2.2⟩
theorem ab_pre {G : ab_G} {s : State} {H : Heap} {h : List ab_E} (av : List Value) (hR : ab_RH G h H) (hal : G.2.2.2.2.1.WarmedH s.vm) : ∀ U : State, U.heap = H → s.WarmedH U.vm → va_Pc av (ab_RU G h) av.toArray U :=
  fun U hU hW => ⟨rfl, by rw [hU]; exact hR, State.WarmedH.trans hal hW⟩
theorem ab_rtl (G : ab_G) (r : Option Value) (rest : List Value) : (r.map (ab_ren G)).toList ++ rest.map (ab_ren G) = (r.toList ++ rest).map (ab_ren G) := by cases r <;> rfl
theorem ab_catsum (G : ab_G) (rest : List Value) : ((rest.map (ab_ren G)).map fun v => v.category).sum = (rest.map Value.category).sum := by
  rw [List.map_map]
  congr 1
  exact List.map_congr_left (fun v _ => ab_ren_cat G v)
/-- a static method: in the own class, or any of another class that isn't private, or a nest mate's -/
def ab_sS (M : ab_M) (i : Nat) (Z : ab_M) (n : Nat) : Prop := ab_c0 M Z n ∧ Cond.static Z.1 ∈ ab_Tg ∧ (Cond.methodLink M.1.cls i Z.1 ∈ ab_Tg ∨ ∃ host, Cond.methodLinkNest M.1.cls i Z.1 host ∈ ab_Tn)
theorem ab_callS {G : ab_G} {M : ab_M} {X : ab_X} {pc : Nat} {l : List (Nat × Value)} {st rest av : List Value} {h h1 : List ab_E} {Z : ab_M} {i n : Nat} {r : Option Value} (hX : ab_Good G M X) (hm : decode M.2.1 pc = .ok (.invokestatic i, 3)) (hs : ab_sS M i Z n) (hC : ab_CM G Z av h r h1) (hav : av.length = n) (hst : st = av.reverse ++ rest) (hW : (rest.map Value.category).sum ≤ 8)
    (kk : ab_WA G M X (pc + 3) l (r.toList ++ rest) h1) : ab_WA G M X pc l st h := by
  obtain ⟨p, e, R, s, m, args, below, meth, c, Q, h0⟩ := X
  obtain ⟨hx, hb, hml, hr, hlk, hown, hts, hal, hsz, hkp, hnm, hrf, hrl, hG⟩ := hX
  obtain ⟨⟨s1, s2, s3, s4, s5⟩, s6, s7⟩ := hs
  obtain ⟨c1, c2, hM⟩ := hC
  have b1 := kk.1
  have b2 := kk.2.1
  refine ⟨by omega, by omega, fun ls H locs g1 g2 hl hR hS => ?_⟩
  have hG1 := ab_tg_good (ab_ws_in s1)
  have hrm : (ab_room Z h h1).frames + 1 ≤ R.frames ∧ 8 + (Z.2.2.1 + 11) + (ab_room Z h h1).locals ≤ R.locals := ⟨by rw [hrf]; exact s4, by rw [hrl]; exact s5⟩
  have hstk : (F0 m pc ls (st.map (ab_ren G))).stack = (av.map (ab_ren G)).reverse ++ rest.map (ab_ren G) := by show st.map (ab_ren G) = _; rw [hst, List.map_append, List.map_reverse]
  have hW2 : 2 * (F0 m pc ls (st.map (ab_ren G))).monitorRoom + ((rest.map (ab_ren G)).map fun v => v.category).sum ≤ 8 := lv_room (by rw [ab_catsum]; exact hW)
  have hnn : (av.map (ab_ren G)).length = n := by rw [List.length_map]; exact hav
  have hf : (h.length - h0.length) + (h1.length - h.length) ≤ R.cells ∧ (ab_sz h - ab_sz h0) + (ab_sz h1 - ab_sz h) ≤ R.slots := ⟨by omega, by omega⟩
  have hrun : va_Run p G.2.2.2.2.2 e R s m args below meth c H locs (h.length - h0.length) (ab_sz h - ab_sz h0) (h1.length - h.length) (ab_sz h1 - ab_sz h) (F0 m pc ls (st.map (ab_ren G))) (rest.map (ab_ren G)) (ab_Qc G r h1 (av.map (ab_ren G)).toArray) (ab_A G) := by
    rcases s7 with s7 | ⟨host, s7⟩
    · exact va_runS (bytes := Z.2.1) (maxL := Z.2.2.1) (ret := Z.2.2.2.1) ⟨hx, hb, hml, hown, hts⟩ hM ⟨callB_of n hts hG1 rfl rfl rfl (hts _ s2) (hts _ s7) s3 hrm, hts _ s6⟩ ⟨ab_blind G _ h, ab_pre _ hR hal⟩ rfl hnn (hl.1) hstk hW2 hm hf
    · exact va_runSN (bytes := Z.2.1) (maxL := Z.2.2.1) (ret := Z.2.2.2.1) (host := host) ⟨hx, hb, hml, hown, hts⟩ hM ⟨va_cnB n hts hG1 rfl rfl rfl (ab_nw hG hal s7) (hts _ s2) s3 hrm, hts _ s6, trivial⟩ ⟨ab_blind G _ h, ab_pre _ hR hal⟩ rfl hnn (hl.1) hstk hW2 hm hf
  refine ab_cont hrun hS fun H1 locs1 hR1 hS1 => ?_
  have w := kk.2.2 ls H1 locs1 (by omega) (by omega) hl hR1 hS1
  rw [ab_rtl, show h.length - h0.length + (h1.length - h.length) = h1.length - h0.length by omega, show ab_sz h - ab_sz h0 + (ab_sz h1 - ab_sz h) = ab_sz h1 - ab_sz h0 by omega]
  exact w
/-- a method of an object of class ci: exact, a nest mate's private one, inherited or overridden -/
def ab_sV (M : ab_M) (i ci : Nat) (Z : ab_M) (n : Nat) : Prop := ab_c0 M Z n ∧ Cond.instanceMethod Z.1 ∈ ab_Tg ∧ ∃ (C : String) (T : u_T) (N : Nat), ab_cls[ci]? = some (C, T, N) ∧
  ((Cond.methodLink M.1.cls i Z.1 ∈ ab_Tg ∧ Cond.selects C Z.1 Z.1 ∈ ab_Tg) ∨ (∃ host, Cond.methodLinkNest M.1.cls i Z.1 host ∈ ab_Tn ∧ Cond.selects C Z.1 Z.1 ∈ ab_Tg) ∨
   (∃ (x : MethodName) (owner : String) (b0 : ByteArray) (m0 : Nat) (r0 : Option FieldType), Cond.methodLink M.1.cls i x ∈ ab_Tg ∧ Cond.sameMethod x.cls owner x.name x.desc ∈ ab_Tg ∧ Cond.instanceMethod ⟨owner, x.name, x.desc⟩ ∈ ab_Tg ∧ Cond.code ⟨owner, x.name, x.desc⟩ b0 m0 r0 ∈ ab_Tg ∧ Cond.selects C x Z.1 ∈ ab_Tg ∧
     owner ≠ "java/lang/invoke/MethodHandle" ∧ owner ≠ "java/lang/invoke/VarHandle" ∧ x.desc = Z.1.desc))
theorem ab_callV {G : ab_G} {M : ab_M} {X : ab_X} {pc : Nat} {l : List (Nat × Value)} {st rest av : List Value} {h h1 : List ab_E} {Z : ab_M} {i n ci b : Nat} {fs : List Value} {r : Option Value} (hX : ab_Good G M X) (hm : decode M.2.1 pc = .ok (.invokevirtual i, 3)) (hc : h[b]? = some (.inr (ci, fs))) (hs : ab_sV M i ci Z n) (hC : ab_CM G Z (.ref b :: av) h r h1) (hav : av.length = n) (hst : st = av.reverse ++ .ref b :: rest) (hW : (rest.map Value.category).sum ≤ 8)
    (kk : ab_WA G M X (pc + 3) l (r.toList ++ rest) h1) : ab_WA G M X pc l st h := by
  obtain ⟨p, e, R, s, m, args, below, meth, c, Q, h0⟩ := X
  obtain ⟨hx, hb, hml, hr, hlk, hown, hts, hal, hsz, hkp, hnm, hrf, hrl, hG⟩ := hX
  obtain ⟨⟨s1, s2, s3, s4, s5⟩, s6, C, T, N, s7, s8⟩ := hs
  obtain ⟨c1, c2, hM⟩ := hC
  have b1 := kk.1
  have b2 := kk.2.1
  refine ⟨by omega, by omega, fun ls H locs g1 g2 hl hR hS => ?_⟩
  have hK := va_K.moved hal.alike hG.1
  have hG1 := ab_tg_good (ab_ws_in s1)
  have hrm : (ab_room Z h h1).frames + 1 ≤ R.frames ∧ 8 + (Z.2.2.1 + 11) + (ab_room Z h h1).locals ≤ R.locals := ⟨by rw [hrf]; exact s4, by rw [hrl]; exact s5⟩
  have hstk : (F0 m pc ls (st.map (ab_ren G))).stack = (av.map (ab_ren G)).reverse ++ .ref (G.2.1 + b) :: rest.map (ab_ren G) := by show st.map (ab_ren G) = _; rw [hst, List.map_append, List.map_reverse]; rfl
  have hW2 : 2 * (F0 m pc ls (st.map (ab_ren G))).monitorRoom + ((rest.map (ab_ren G)).map fun v => v.category).sum ≤ 8 := lv_room (by rw [ab_catsum]; exact hW)
  have hnn : (av.map (ab_ren G)).length = n := by rw [List.length_map]; exact hav
  have hf : (h.length - h0.length) + (h1.length - h.length) ≤ R.cells ∧ (ab_sz h - ab_sz h0) + (ab_sz h1 - ab_sz h) ≤ R.slots := ⟨by omega, by omega⟩
  have he : (ab_wld G h)[b]? = some (G.2.1 + b, .inr (ci, fs.map (ab_ren G))) := ab_wld_get hc
  have hp : PreV s H C (G.2.1 + b) (va_Pc ((Value.ref b :: av).map (ab_ren G)) (ab_RU G h)) (av.map (ab_ren G)) := ⟨ab_blind G _ h, va_recv hK hR.1 s7 he, ab_pre ((Value.ref b :: av).map (ab_ren G)) hR hal⟩
  have hrun : va_Run p G.2.2.2.2.2 e R s m args below meth c H locs (h.length - h0.length) (ab_sz h - ab_sz h0) (h1.length - h.length) (ab_sz h1 - ab_sz h) (F0 m pc ls (st.map (ab_ren G))) (rest.map (ab_ren G)) (ab_Qc G r h1 ((Value.ref b :: av).map (ab_ren G)).toArray) (ab_A G) := by
    rcases s8 with ⟨s8, s9⟩ | ⟨host, s8, s9⟩ | ⟨x, owner, b0', m0, r0, t1, t2, t3, t4, t5, t6, t7, t8⟩
    · exact va_runV (bytes := Z.2.1) (maxL := Z.2.2.1) (ret := Z.2.2.2.1) (C := C) ⟨hx, hb, hml, hown, hts⟩ hM ⟨callB_of n hts hG1 rfl rfl rfl (hts _ s2) (hts _ s8) s3 hrm, hts _ s6, hts _ s9⟩ hp rfl hnn (hl.1) hstk hW2 hm hf
    · exact va_runVN (bytes := Z.2.1) (maxL := Z.2.2.1) (ret := Z.2.2.2.1) (C := C) (host := host) ⟨hx, hb, hml, hown, hts⟩ hM ⟨va_cnB n hts hG1 rfl rfl rfl (ab_nw hG hal s8) (hts _ s2) s3 hrm, hts _ s6, hts _ s9⟩ hp rfl hnn (hl.1) hstk hW2 hm hf
    · refine va_runU (bytes := Z.2.1) (maxL := Z.2.2.1) (ret := Z.2.2.2.1) (C := C) (owner := owner) (x := x) ⟨hx, hb, hml, hown, hts⟩ hM ?_ hp rfl hnn (hl.1) hstk hW2 hm hf
      refine ⟨⟨rfl, rfl, hrm.1, hrm.2, pay_in hts hG1, List.mem_cons_self⟩, hts _ s1, hts _ s2, ⟨t6, t7⟩, fun sig hsig => ?_, hts _ t1, hts _ t2, va_Decl.of (hts _ t3) (hts _ t4), hts _ t5, hts _ s6⟩
      have h2 := s3.2.2
      rw [← t8, hsig] at h2
      exact (Option.some.inj h2).symm
  refine ab_cont hrun hS fun H1 locs1 hR1 hS1 => ?_
  have w := kk.2.2 ls H1 locs1 (by omega) (by omega) hl hR1 hS1
  rw [ab_rtl, show h.length - h0.length + (h1.length - h.length) = h1.length - h0.length by omega, show ab_sz h - ab_sz h0 + (ab_sz h1 - ab_sz h) = ab_sz h1 - ab_sz h0 by omega]
  exact w
/-- a constructor -/
def ab_sI (M : ab_M) (i : Nat) (Z : ab_M) (n : Nat) : Prop := ab_c0 M Z n ∧ Cond.instanceMethod Z.1 ∈ ab_Tg ∧ Z.1.name = "<init>" ∧ Z.2.2.2.1 = none ∧ (Cond.methodLink M.1.cls i Z.1 ∈ ab_Tg ∨ ∃ host, Cond.methodLinkNest M.1.cls i Z.1 host ∈ ab_Tn)
theorem ab_callI {G : ab_G} {M : ab_M} {X : ab_X} {pc : Nat} {l : List (Nat × Value)} {st rest av : List Value} {h h1 : List ab_E} {Z : ab_M} {i n b : Nat} (hX : ab_Good G M X) (hm : decode M.2.1 pc = .ok (.invokespecial i, 3)) (hs : ab_sI M i Z n) (hC : ab_CM G Z (.ref b :: av) h none h1) (hav : av.length = n) (hst : st = av.reverse ++ .ref b :: rest) (hW : (rest.map Value.category).sum ≤ 8)
    (kk : ab_WA G M X (pc + 3) l rest h1) : ab_WA G M X pc l st h := by
  obtain ⟨p, e, R, s, m, args, below, meth, c, Q, h0⟩ := X
  obtain ⟨hx, hb, hml, hr, hlk, hown, hts, hal, hsz, hkp, hnm, hrf, hrl, hG⟩ := hX
  obtain ⟨⟨s1, s2, s3, s4, s5⟩, s6, s7, s0, s8⟩ := hs
  rw [s0] at s1
  obtain ⟨c1, c2, hM⟩ := hC
  have b1 := kk.1
  have b2 := kk.2.1
  refine ⟨by omega, by omega, fun ls H locs g1 g2 hl hR hS => ?_⟩
  have hws : ab_ws Z = .code Z.1 Z.2.1 Z.2.2.1 none :: ab_Tg := by unfold ab_ws; rw [s0]
  have hG1 : GoodIn ab_Tg (ab_ws Z) := ab_tg_good (fun w hw => by
    rw [hws] at hw
    exact (List.mem_cons.mp hw).elim (fun e => by rw [e]; exact s1) id)
  have hrm : (ab_room Z h h1).frames + 1 ≤ R.frames ∧ 8 + (Z.2.2.1 + 11) + (ab_room Z h h1).locals ≤ R.locals := ⟨by rw [hrf]; exact s4, by rw [hrl]; exact s5⟩
  have hstk : (F0 m pc ls (st.map (ab_ren G))).stack = (av.map (ab_ren G)).reverse ++ .ref (G.2.1 + b) :: rest.map (ab_ren G) := by show st.map (ab_ren G) = _; rw [hst, List.map_append, List.map_reverse]; rfl
  have hW2 : 2 * (F0 m pc ls (st.map (ab_ren G))).monitorRoom + ((rest.map (ab_ren G)).map fun v => v.category).sum ≤ 8 := lv_room (by rw [ab_catsum]; exact hW)
  have hnn : (av.map (ab_ren G)).length = n := by rw [List.length_map]; exact hav
  have hf : (h.length - h0.length) + (h1.length - h.length) ≤ R.cells ∧ (ab_sz h - ab_sz h0) + (ab_sz h1 - ab_sz h) ≤ R.slots := ⟨by omega, by omega⟩
  have hp : PreS s H (va_Pc ((Value.ref b :: av).map (ab_ren G)) (ab_RU G h)) (.ref (G.2.1 + b) :: av.map (ab_ren G)) := ⟨ab_blind G _ h, ab_pre ((Value.ref b :: av).map (ab_ren G)) hR hal⟩
  have hrun : va_Run p G.2.2.2.2.2 e R s m args below meth c H locs (h.length - h0.length) (ab_sz h - ab_sz h0) (h1.length - h.length) (ab_sz h1 - ab_sz h) (F0 m pc ls (st.map (ab_ren G))) (rest.map (ab_ren G)) (ab_Qc G none h1 ((Value.ref b :: av).map (ab_ren G)).toArray) (ab_A G) := by
    rcases s8 with s8 | ⟨host, s8⟩
    · exact va_runI (bytes := Z.2.1) (maxL := Z.2.2.1) ⟨hx, hb, hml, hown, hts⟩ hM ⟨callB_of n hts hG1 hws rfl rfl (hts _ s2) (hts _ s8) s3 hrm, s7, hts _ s6⟩ hp rfl hnn (hl.1) hstk hW2 hm hf
    · exact va_runIN (bytes := Z.2.1) (maxL := Z.2.2.1) (host := host) ⟨hx, hb, hml, hown, hts⟩ hM ⟨va_cnB n hts hG1 hws rfl rfl (ab_nw hG hal s8) (hts _ s2) s3 hrm, s7, hts _ s6⟩ hp rfl hnn (hl.1) hstk hW2 hm hf
  refine ab_cont hrun hS fun H1 locs1 hR1 hS1 => ?_
  have w := kk.2.2 ls H1 locs1 (by omega) (by omega) hl hR1 hS1
  rw [ab_rtl, show h.length - h0.length + (h1.length - h.length) = h1.length - h0.length by omega, show ab_sz h - ab_sz h0 + (ab_sz h1 - ab_sz h) = ab_sz h1 - ab_sz h0 by omega]
  exact w
/-- Object's constructor -/
theorem ab_objInit {G : ab_G} {M : ab_M} {X : ab_X} {pc : Nat} {l : List (Nat × Value)} {rest : List Value} {h : List ab_E} {i b : Nat} (hX : ab_Good G M X) (hm : decode M.2.1 pc = .ok (.invokespecial i, 3)) (hw : Cond.methodLink M.1.cls i objectInit ∈ ab_Tg ∧ Cond.instanceMethod objectInit ∈ ab_Tg ∧ Cond.code objectInit ⟨#[0xb1]⟩ 1 none ∈ ab_Tg) (hrm : 1 ≤ M.2.2.2.2.1 ∧ 20 ≤ M.2.2.2.2.2) (hW : (rest.map Value.category).sum ≤ 8)
    (kk : ab_WA G M X (pc + 3) l rest h) : ab_WA G M X pc l (.ref b :: rest) h := by
  obtain ⟨p, e, R, s, m, args, below, meth, c, Q, h0⟩ := X
  obtain ⟨hx, hb, hml, hr, hlk, hown, hts, hal, hsz, hkp, hnm, hrf, hrl, hG⟩ := hX
  refine ⟨kk.1, kk.2.1, fun ls H locs g1 g2 hl hR hS => ?_⟩
  have w := kk.2.2 ls H locs g1 g2 hl hR hS
  have e0 : ((rest.map (ab_ren G)).map fun v => v.category).sum ≤ 8 := by rw [ab_catsum]; exact hW
  refine W.objInit hx hb hown (hts _ hw.1) (hts _ hw.2.1) (hts _ hw.2.2) rfl (hl.1.trans hml.symm) rfl hm (by rw [hrf]; exact hrm.1) ?_ w
  have e1 : 2 * (F0 m pc ls ((Value.ref b :: rest).map (ab_ren G))).monitorRoom = 0 := rfl
  rw [e1, hrl]
  omega
/-- a superclass's method -/
def ab_sP (M : ab_M) (i : Nat) (Z : ab_M) (n : Nat) : Prop := ab_c0 M Z n ∧ Cond.instanceMethod Z.1 ∈ ab_Tg ∧ Z.1.name ≠ "<init>" ∧ Cond.methodLink M.1.cls i Z.1 ∈ ab_Tg ∧ Cond.sameMethod Z.1.cls Z.1.cls Z.1.name Z.1.desc ∈ ab_Tg ∧ Cond.superclass M.1.cls Z.1.cls ∈ ab_Tg
theorem ab_callP {G : ab_G} {M : ab_M} {X : ab_X} {pc : Nat} {l : List (Nat × Value)} {st rest av : List Value} {h h1 : List ab_E} {Z : ab_M} {i n ci b : Nat} {fs : List Value} {q : vw_C} {r : Option Value} (hX : ab_Good G M X) (hm : decode M.2.1 pc = .ok (.invokespecial i, 3)) (hc : h[b]? = some (.inr (ci, fs))) (hq : ab_cls[ci]? = some q) (hs : ab_sP M i Z n) (hC : ab_CM G Z (.ref b :: av) h r h1) (hav : av.length = n) (hst : st = av.reverse ++ .ref b :: rest) (hW : (rest.map Value.category).sum ≤ 8)
    (kk : ab_WA G M X (pc + 3) l (r.toList ++ rest) h1) : ab_WA G M X pc l st h := by
  obtain ⟨p, e, R, s, m, args, below, meth, c, Q, h0⟩ := X
  obtain ⟨hx, hb, hml, hr, hlk, hown, hts, hal, hsz, hkp, hnm, hrf, hrl, hG⟩ := hX
  obtain ⟨⟨s1, s2, s3, s4, s5⟩, s6, s7, s8, s9, s10⟩ := hs
  obtain ⟨c1, c2, hM⟩ := hC
  have b1 := kk.1
  have b2 := kk.2.1
  refine ⟨by omega, by omega, fun ls H locs g1 g2 hl hR hS => ?_⟩
  have hK := va_K.moved hal.alike hG.1
  have hG1 := ab_tg_good (ab_ws_in s1)
  have hrm : (ab_room Z h h1).frames + 1 ≤ R.frames ∧ 8 + (Z.2.2.1 + 11) + (ab_room Z h h1).locals ≤ R.locals := ⟨by rw [hrf]; exact s4, by rw [hrl]; exact s5⟩
  have hstk : (F0 m pc ls (st.map (ab_ren G))).stack = (av.map (ab_ren G)).reverse ++ .ref (G.2.1 + b) :: rest.map (ab_ren G) := by show st.map (ab_ren G) = _; rw [hst, List.map_append, List.map_reverse]; rfl
  have hW2 : 2 * (F0 m pc ls (st.map (ab_ren G))).monitorRoom + ((rest.map (ab_ren G)).map fun v => v.category).sum ≤ 8 := lv_room (by rw [ab_catsum]; exact hW)
  have hnn : (av.map (ab_ren G)).length = n := by rw [List.length_map]; exact hav
  have hf : (h.length - h0.length) + (h1.length - h.length) ≤ R.cells ∧ (ab_sz h - ab_sz h0) + (ab_sz h1 - ab_sz h) ≤ R.slots := ⟨by omega, by omega⟩
  have he : (ab_wld G h)[b]? = some (G.2.1 + b, .inr (ci, fs.map (ab_ren G))) := ab_wld_get hc
  have hp : PreV s H q.1 (G.2.1 + b) (va_Pc ((Value.ref b :: av).map (ab_ren G)) (ab_RU G h)) (av.map (ab_ren G)) := ⟨ab_blind G _ h, va_recv hK hR.1 hq he, ab_pre ((Value.ref b :: av).map (ab_ren G)) hR hal⟩
  have hrun : va_Run p G.2.2.2.2.2 e R s m args below meth c H locs (h.length - h0.length) (ab_sz h - ab_sz h0) (h1.length - h.length) (ab_sz h1 - ab_sz h) (F0 m pc ls (st.map (ab_ren G))) (rest.map (ab_ren G)) (ab_Qc G r h1 ((Value.ref b :: av).map (ab_ren G)).toArray) (ab_A G) :=
    va_runSU (bytes := Z.2.1) (maxL := Z.2.2.1) (ret := Z.2.2.2.1) (C := q.1) (hK.1 ci q hq).2 ⟨hx, hb, hml, hown, hts⟩ hM ⟨⟨rfl, rfl, hrm.1, hrm.2, pay_in hts hG1, List.mem_cons_self⟩, hts _ s8, hts _ s9, hts _ s10, hts _ s6, hts _ s2, hts _ s1, s7, fun sig hsig => by
      have h2 := s3.2.2
      rw [hsig] at h2
      exact (Option.some.inj h2).symm⟩ hp rfl hnn (hl.1) hstk hW2 hm hf
  refine ab_cont hrun hS fun H1 locs1 hR1 hS1 => ?_
  have w := kk.2.2 ls H1 locs1 (by omega) (by omega) hl hR1 hS1
  rw [ab_rtl, show h.length - h0.length + (h1.length - h.length) = h1.length - h0.length by omega, show ab_sz h - ab_sz h0 + (ab_sz h1 - ab_sz h) = ab_sz h1 - ab_sz h0 by omega]
  exact w
/-- checkcast of an object of class ci -/
theorem ab_cast {G : ab_G} {M : ab_M} {X : ab_X} {pc : Nat} {l : List (Nat × Value)} {st : List Value} {h : List ab_E} {i ci a : Nat} {fs : List Value} {q : vw_C} {nm : String} (hX : ab_Good G M X) (hm : decode M.2.1 pc = .ok (.checkcast i, 3)) (hc : h[a]? = some (.inr (ci, fs))) (hq : ab_cls[ci]? = some q) (hw : Cond.classLink M.1.cls i nm ∈ ab_Tg ∧ Cond.castable q.1 nm ∈ ab_Tn)
    (kk : ab_WA G M X (pc + 3) l (.ref a :: st) h) : ab_WA G M X pc l (.ref a :: st) h := by
  obtain ⟨p, e, R, s, m, args, below, meth, c, Q, h0⟩ := X
  obtain ⟨hx, hb, hml, hr, hlk, hown, hts, hal, hsz, hkp, hnm, hrf, hrl, hG⟩ := hX
  refine ⟨kk.1, kk.2.1, fun ls H locs g1 g2 hl hR hS => ?_⟩
  have w := kk.2.2 ls H locs g1 g2 hl hR hS
  have hK := va_K.moved hal.alike hG.1
  have he : (ab_wld G h)[a]? = some (G.2.1 + a, .inr (ci, fs.map (ab_ren G))) := ab_wld_get hc
  exact va_castY hx hb hown (hts _ hw.1) (ab_nw hG hal hw.2) (va_recv hK hR.1 hq he) hm w
/-- a static that holds an array of before -/
theorem ab_getstatic {G : ab_G} {M : ab_M} {X : ab_X} {pc : Nat} {l : List (Nat × Value)} {st : List Value} {h : List ab_E} {i : Nat} {C n d : String} (j : Nat) (hj : j < 4) (hX : ab_Good G M X) (hm : decode M.2.1 pc = .ok (.getstatic i, 3)) (hw : Cond.fieldLink M.1.cls i C n d ∈ ab_Tg) (hZ : ab_GG G → ab_St G C n d j)
    (kk : ab_WA G M X (pc + 3) l (.float (UInt32.ofNat j) :: st) h) : ab_WA G M X pc l st h := by
  obtain ⟨p, e, R, s, m, args, below, meth, c, Q, h0⟩ := X
  obtain ⟨hx, hb, hml, hr, hlk, hown, hts, hal, hsz, hkp, hnm, hrf, hrl, hG⟩ := hX
  refine ⟨kk.1, kk.2.1, fun ls H locs g1 g2 hl hR hS => ?_⟩
  have w := kk.2.2 ls H locs g1 g2 hl hR hS
  have e1 : ab_ren G (.float (UInt32.ofNat j)) = .ref (G.2.2.1 j) := by
    match j, hj with
    | 0, _ => rfl
    | 1, _ => rfl
    | 2, _ => rfl
    | 3, _ => rfl
  have hz0 := (hZ hG).1
  have hz1 : va_Z C n d (.ref (G.2.2.1 j)) (ab_A G) s s.heap := by
    refine va_Z.kept (va_Z.moved hal.alike hz0) (fun q _ hq => hkp q (Nat.not_le.mp hq))
  refine va_gets hx hb hz1 hS hown (hts _ hw) (fun _ hh => hh) hm ?_
  rw [List.map_cons, e1] at w
  exact w
theorem ab_wlen {G : ab_G} {M : ab_M} {X : ab_X} {pc : Nat} {l : List (Nat × Value)} {st : List Value} {h : List ab_E} (hX : ab_Good G M X) (hm : decode M.2.1 pc = .ok (.arraylength, 1))
    (kk : ab_WA G M X (pc + 1) l (.int 6 :: st) h) : ab_WA G M X pc l (.float 2 :: st) h := by
  obtain ⟨p, e, R, s, m, args, below, meth, c, Q, h0⟩ := X
  obtain ⟨hx, hb, hml, hr, hlk, hown, hts, hal, hsz, hkp, hnm, hrf, hrl, hG⟩ := hX
  refine ⟨kk.1, kk.2.1, fun ls H locs g1 g2 hl hR hS => ?_⟩
  have w := kk.2.2 ls H locs g1 g2 hl hR hS
  obtain ⟨cell, t1, t2, t3, t4, t5, t6, t7⟩ := hG.2.2.2.2.2.1
  have hlt : G.2.2.1 2 < G.2.1 := Nat.not_le.mp t7
  exact W.alen hx hb (cell := cell) (ty := .long) ((hR.2.2 _ hlt).trans t1) (State.isArrayOf_alike hal.alike t2) t5 rfl rfl hm w
theorem ab_wload {G : ab_G} {M : ab_M} {X : ab_X} {pc : Nat} {l : List (Nat × Value)} {st : List Value} {h : List ab_E} {i : Int32} (hX : ab_Good G M X) (hm : decode M.2.1 pc = .ok (.laload, 1)) (hin : vp_in i 6)
    (kk : ab_WA G M X (pc + 1) l (.long (ab_wv i.toNatClampNeg) :: st) h) : ab_WA G M X pc l (.int i :: .float 2 :: st) h := by
  obtain ⟨p, e, R, s, m, args, below, meth, c, Q, h0⟩ := X
  obtain ⟨hx, hb, hml, hr, hlk, hown, hts, hal, hsz, hkp, hnm, hrf, hrl, hG⟩ := hX
  refine ⟨kk.1, kk.2.1, fun ls H locs g1 g2 hl hR hS => ?_⟩
  have w := kk.2.2 ls H locs g1 g2 hl hR hS
  have hT : va_T .long (G.2.2.1 2) 6 (fun j => .long (ab_wv j)) (ab_A G) s s.heap := va_T.kept (va_T.moved hal.alike hG.2.2.2.2.2.1) (fun q _ hq => hkp q (Nat.not_le.mp hq))
  exact va_tl hx hb hT hS hin rfl hm w
/-- the static empty array has no places -/
theorem ab_elen {G : ab_G} {M : ab_M} {X : ab_X} {pc : Nat} {l : List (Nat × Value)} {st : List Value} {h : List ab_E} (hX : ab_Good G M X) (hm : decode M.2.1 pc = .ok (.arraylength, 1))
    (kk : ab_WA G M X (pc + 1) l (.int 0 :: st) h) : ab_WA G M X pc l (.float 0 :: st) h := by
  obtain ⟨p, e, R, s, m, args, below, meth, c, Q, h0⟩ := X
  obtain ⟨hx, hb, hml, hr, hlk, hown, hts, hal, hsz, hkp, hnm, hrf, hrl, hG⟩ := hX
  refine ⟨kk.1, kk.2.1, fun ls H locs g1 g2 hl hR hS => ?_⟩
  have w := kk.2.2 ls H locs g1 g2 hl hR hS
  obtain ⟨cell, t1, t2, t3⟩ := hG.2.2.2.1
  exact W.alen hx hb (cell := cell) (ty := .object "java/lang/Object") ((hR.2.2 _ hG.2.2.1.2).trans t1) (State.isArrayOf_alike hal.alike t2) t3 rfl rfl hm w
/-- the script -/
theorem ab_slen2 {G : ab_G} {M : ab_M} {X : ab_X} {pc : Nat} {l : List (Nat × Value)} {st : List Value} {h : List ab_E} {L : Nat} {xs : Nat → Int32} (hX : ab_Good G M X) (hsc : va_X (G.2.2.1 1) L xs G.2.2.2.2.1 G.2.2.2.2.1.heap ∧ G.2.2.1 1 < G.2.1) (hm : decode M.2.1 pc = .ok (.arraylength, 1))
    (kk : ab_WA G M X (pc + 1) l (.int (nI L) :: st) h) : ab_WA G M X pc l (.float 1 :: st) h := by
  obtain ⟨p, e, R, s, m, args, below, meth, c, Q, h0⟩ := X
  obtain ⟨hx, hb, hml, hr, hlk, hown, hts, hal, hsz, hkp, hnm, hrf, hrl, hG⟩ := hX
  refine ⟨kk.1, kk.2.1, fun ls H locs g1 g2 hl hR hS => ?_⟩
  have w := kk.2.2 ls H locs g1 g2 hl hR hS
  obtain ⟨cell, t1, t2, t3, t4, t5⟩ := hsc.1
  exact W.alen hx hb (cell := cell) (ty := .int) ((hR.2.2 _ hsc.2).trans t1) (State.isArrayOf_alike hal.alike t2) (by rw [t4]; rfl) rfl rfl hm w
theorem ab_sload {G : ab_G} {M : ab_M} {X : ab_X} {pc : Nat} {l : List (Nat × Value)} {st : List Value} {h : List ab_E} {L : Nat} {xs : Nat → Int32} {i : Int32} (hX : ab_Good G M X) (hsc : va_X (G.2.2.1 1) L xs G.2.2.2.2.1 G.2.2.2.2.1.heap ∧ G.2.2.1 1 < G.2.1) (hm : decode M.2.1 pc = .ok (.iaload, 1)) (hin : vp_in i L)
    (kk : ab_WA G M X (pc + 1) l (.int (xs i.toNatClampNeg) :: st) h) : ab_WA G M X pc l (.int i :: .float 1 :: st) h := by
  obtain ⟨p, e, R, s, m, args, below, meth, c, Q, h0⟩ := X
  obtain ⟨hx, hb, hml, hr, hlk, hown, hts, hal, hsz, hkp, hnm, hrf, hrl, hG⟩ := hX
  refine ⟨kk.1, kk.2.1, fun ls H locs g1 g2 hl hR hS => ?_⟩
  have w := kk.2.2 ls H locs g1 g2 hl hR hS
  have hXs : va_X (G.2.2.1 1) L xs s s.heap := va_X.kept (va_X.moved hal.alike hsc.1) (hkp _ hsc.2)
  exact va_sld hx hb hXs (by omega) (fun z => absurd hsc.2 (Nat.not_lt.mpr z)) hS hin hm w
