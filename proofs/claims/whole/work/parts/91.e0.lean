/-! the law's entry and end -/
theorem e_nest {w : Cond} (hw : ab_isN w = true) {args : Array Value} {s : State} (h : w.before args s = true) : va_Nw w s := by
  cases w with
  | fieldLinkNest => exact va_any rfl h
  | methodLinkNest => exact va_any rfl h
  | castable => exact va_any rfl h
  | arrayOver ty =>
    cases ty with
    | object C => exact h
    | _ => cases hw
  | _ => cases hw
theorem e_cls {args : Array Value} {s : State} (hT : ∀ w ∈ ab_Tg, w.before args s = true) : ∃ D : va_G, ∀ (ci : Nat) (q : vw_C), ab_cls[ci]? = some q → u_Kn s q.1 q.2.1 q.2.2 (D.1 ci) (D.2 ci) := by
  have h : ∀ ci : Nat, ∃ x : ClassId × (Nat → Nat), ∀ q, ab_cls[ci]? = some q → u_Kn s q.1 q.2.1 q.2.2 x.1 x.2 := by
    intro ci
    match ci with
    | 0 =>
      obtain ⟨a, b, h⟩ := u_known (C := RJx4a65c) (T := TJx4a65c) (N := 3) (n := 3) hT zf_Jx4a65c (hT _ tw_83)
      exact ⟨(a, b), fun q hq => by cases (Option.some.inj (show some (RJx4a65c, TJx4a65c, 3) = some q from hq)); exact h⟩
    | 1 =>
      obtain ⟨a, b, h⟩ := u_known (C := RX0) (T := TX0) (N := 1) (n := 1) hT zf_X0 (hT _ tw_232)
      exact ⟨(a, b), fun q hq => by cases (Option.some.inj (show some (RX0, TX0, 1) = some q from hq)); exact h⟩
    | 2 =>
      obtain ⟨a, b, h⟩ := u_known (C := RX1) (T := TX1) (N := 1) (n := 1) hT zf_X1 (hT _ tw_208)
      exact ⟨(a, b), fun q hq => by cases (Option.some.inj (show some (RX1, TX1, 1) = some q from hq)); exact h⟩
    | 3 =>
      obtain ⟨a, b, h⟩ := u_known (C := RX2) (T := TX2) (N := 1) (n := 1) hT zf_X2 (hT _ tw_200)
      exact ⟨(a, b), fun q hq => by cases (Option.some.inj (show some (RX2, TX2, 1) = some q from hq)); exact h⟩
    | 4 =>
      obtain ⟨a, b, h⟩ := u_known (C := RX3) (T := TX3) (N := 1) (n := 1) hT zf_X3 (hT _ tw_216)
      exact ⟨(a, b), fun q hq => by cases (Option.some.inj (show some (RX3, TX3, 1) = some q from hq)); exact h⟩
    | 5 =>
      obtain ⟨a, b, h⟩ := u_known (C := RX4) (T := TX4) (N := 1) (n := 1) hT zf_X4 (hT _ tw_240)
      exact ⟨(a, b), fun q hq => by cases (Option.some.inj (show some (RX4, TX4, 1) = some q from hq)); exact h⟩
    | 6 =>
      obtain ⟨a, b, h⟩ := u_known (C := RX5) (T := TX5) (N := 1) (n := 1) hT zf_X5 (hT _ tw_224)
      exact ⟨(a, b), fun q hq => by cases (Option.some.inj (show some (RX5, TX5, 1) = some q from hq)); exact h⟩
    | 7 =>
      obtain ⟨a, b, h⟩ := u_known (C := RX6) (T := TX6) (N := 1) (n := 1) hT zf_X6 (hT _ tw_248)
      exact ⟨(a, b), fun q hq => by cases (Option.some.inj (show some (RX6, TX6, 1) = some q from hq)); exact h⟩
    | 8 =>
      obtain ⟨a, b, h⟩ := u_known (C := RX7) (T := TX7) (N := 6) (n := 6) hT zf_X7 (hT _ tw_389)
      exact ⟨(a, b), fun q hq => by cases (Option.some.inj (show some (RX7, TX7, 6) = some q from hq)); exact h⟩
    | 9 =>
      obtain ⟨a, b, h⟩ := u_known (C := RX8) (T := TX8) (N := 1) (n := 1) hT zf_X8 (hT _ tw_131)
      exact ⟨(a, b), fun q hq => by cases (Option.some.inj (show some (RX8, TX8, 1) = some q from hq)); exact h⟩
    | 10 =>
      obtain ⟨a, b, h⟩ := u_known (C := RX9) (T := TX9) (N := 6) (n := 6) hT zf_X9 (hT _ tw_255)
      exact ⟨(a, b), fun q hq => by cases (Option.some.inj (show some (RX9, TX9, 6) = some q from hq)); exact h⟩
    | 11 =>
      obtain ⟨a, b, h⟩ := u_known (C := RX10) (T := TX10) (N := 5) (n := 5) hT zf_X10 (hT _ tw_107)
      exact ⟨(a, b), fun q hq => by cases (Option.some.inj (show some (RX10, TX10, 5) = some q from hq)); exact h⟩
    | 12 =>
      obtain ⟨a, b, h⟩ := u_known (C := RX11) (T := TX11) (N := 8) (n := 8) hT zf_X11 (hT _ tw_75)
      exact ⟨(a, b), fun q hq => by cases (Option.some.inj (show some (RX11, TX11, 8) = some q from hq)); exact h⟩
    | 13 =>
      obtain ⟨a, b, h⟩ := u_known (C := RX12) (T := TX12) (N := 22) (n := 22) hT zf_X12 (hT _ tw_1064)
      exact ⟨(a, b), fun q hq => by cases (Option.some.inj (show some (RX12, TX12, 22) = some q from hq)); exact h⟩
    | 14 =>
      obtain ⟨a, b, h⟩ := u_known (C := "java/lang/IllegalStateException") (T := TX0) (N := 0) (n := 6) hT (fun w hw => nomatch hw) (hT _ tw_974)
      exact ⟨(a, b), fun q hq => by cases (Option.some.inj (show some ("java/lang/IllegalStateException", TX0, 0) = some q from hq)); exact h⟩
    | 15 =>
      obtain ⟨a, b, h⟩ := u_known (C := "java/lang/IllegalArgumentException") (T := TX0) (N := 0) (n := 6) hT (fun w hw => nomatch hw) (hT _ tw_1048)
      exact ⟨(a, b), fun q hq => by cases (Option.some.inj (show some ("java/lang/IllegalArgumentException", TX0, 0) = some q from hq)); exact h⟩
    | k + 16 => exact ⟨(0, fun _ => 0), fun q hq => by cases (show none = some q from hq)⟩
  exact ⟨(fun ci => (Classical.choose (h ci)).1, fun ci => (Classical.choose (h ci)).2), fun ci q hq => Classical.choose_spec (h ci) q hq⟩
theorem e_arr {args : Array Value} {s : State} (hT : ∀ w ∈ ab_Tg, w.before args s = true) (hN : ∀ w ∈ ab_Tn, va_Nw w s) : ∃ f : Nat → ClassId, (ArrOfT s (f 0) .int ∧ va_RA s (f 0) .int) ∧ (ArrOfT s (f 1) .long ∧ va_RA s (f 1) .long) ∧ (ArrOfT s (f 2) (.object "java/lang/Object") ∧ va_RA s (f 2) (.object "java/lang/Object")) ∧ (ArrOfT s (f 3) (.object "WitnessesMustLie$Shelf") ∧ va_RA s (f 3) (.object "WitnessesMustLie$Shelf")) := by
  obtain ⟨c0, k0, m0, a1, a2, a3⟩ := Cond.arrayClass_spec (hT _ tw_129)
  obtain ⟨c1, k1, m1, b1, b2, b3⟩ := Cond.arrayClass_spec (hT _ tw_140)
  obtain ⟨m2, c2, k2, d1, d2, d3, d4, d5⟩ := Cond.arrayOver_spec (hN _ tw_190)
  obtain ⟨m3, c3, k3, g1, g2, g3, g4, g5⟩ := Cond.arrayOver_spec (hN _ tw_105)
  refine ⟨fun k => match k with | 0 => c0 | 1 => c1 | 2 => c2 | _ => c3, ⟨?_, a1⟩, ⟨?_, b1⟩, ⟨?_, k2, m2, d3, d4, d1, d5⟩, ⟨?_, k3, m3, g3, g4, g1, g5⟩⟩
  · exact fun n z => ⟨fun k h => (by cases h), k0, a2, m0, a3⟩
  · exact fun n z => ⟨fun k h => (by cases h), k1, b2, m1, b3⟩
  · exact fun n z => ⟨fun k h => (by cases h), k2, d3, m2, d4⟩
  · exact fun n z => ⟨fun k h => (by cases h), k3, g3, m3, g4⟩
def eQ : QT := fun _ => (0, fun _ => (0, 0, 0, 0, 0))
theorem e_RS : RS cz [eCell (fun _ => 0)] eQ 0 mz := by
  refine ⟨⟨fun l hl => ⟨rfl, Nat.zero_le _, Or.inl ⟨rfl, if_pos (by omega)⟩, fun i hi => absurd hi (Nat.not_lt_zero _)⟩, fun l hl k hk _ a ha => ?_⟩, ?_, Or.inl ⟨rfl, rfl⟩, fun d hd => Or.inl ⟨rfl, rfl⟩, fun d hd => ⟨0, by decide, if_neg (by omega)⟩⟩
  · have e : cz.2.2.2 l = .float 0 := if_pos (by omega)
    rw [e] at ha
    cases ha
  · exact ⟨by decide, by decide, by decide, rfl, rfl, rfl, rfl, rfl, ⟨0, by decide, rfl⟩, fun i hi => absurd hi (Nat.not_lt_zero _), fun i hi => absurd hi (Nat.not_lt_zero _), fun i hi => absurd hi (Nat.not_lt_zero _)⟩
theorem e_LI : LInv cz [eCell (fun _ => 0)] eQ 0 mz 0 := ⟨e_RS, ⟨_, rfl⟩, Nat.le_refl _, Nat.le_refl _⟩
theorem ns_L_law_8 {nm : String} : ab_ns (mLW nm) 8 12 [.null, .null, .null, .null, .null, .int 0, .null, .null] := ⟨_, _, _, tyX11, rfl, zf_X11, tyX11_ok, tw_74, tw_75, tw_45, fun G j hj => by
  obtain rfl | rfl | rfl | rfl | rfl | rfl | rfl | rfl : j = 0 ∨ j = 1 ∨ j = 2 ∨ j = 3 ∨ j = 4 ∨ j = 5 ∨ j = 6 ∨ j = 7 := by omega
  all_goals rfl⟩
theorem ns_L_law_18 {nm : String} : ab_ns (mLW nm) 18 13 [.int 0, .int 0, .null, .int 0, .null, .int 0, .null, .null, .null, .null, .null, .null, .int 0, .int 0, .null, .int 0, .null, .null, .long 0, .long 0, .int 0, .int 0] := ⟨_, _, _, tyX12, rfl, zf_X12, tyX12_ok, tw_1063, tw_1064, tw_63, fun G j hj => by
  obtain rfl | rfl | rfl | rfl | rfl | rfl | rfl | rfl | rfl | rfl | rfl | rfl | rfl | rfl | rfl | rfl | rfl | rfl | rfl | rfl | rfl | rfl : j = 0 ∨ j = 1 ∨ j = 2 ∨ j = 3 ∨ j = 4 ∨ j = 5 ∨ j = 6 ∨ j = 7 ∨ j = 8 ∨ j = 9 ∨ j = 10 ∨ j = 11 ∨ j = 12 ∨ j = 13 ∨ j = 14 ∨ j = 15 ∨ j = 16 ∨ j = 17 ∨ j = 18 ∨ j = 19 ∨ j = 20 ∨ j = 21 := by omega
  all_goals rfl⟩
theorem e_law {G : ab_G} {nm : String} {X : ab_X} {L : Nat} {xs : Nat → Int32} (hG : ab_GG G) (hGX : ab_GX G) (hX : ab_Good G (mLW nm) X) (hsc : va_X (G.2.2.1 1) L xs G.2.2.2.2.1 G.2.2.2.2.1.heap ∧ G.2.2.1 1 < G.2.1) (hL : L ≤ 3072) (fin : ∀ (l : List (Nat × Value)) (h : List ab_E), h.length ≤ 51400 → ab_sz h ≤ 520000 → ab_WA G (mLW nm) X 1618 l [] h) : ab_WA G (mLW nm) X 0 [(0, .float 1)] [] [] := by
  refine ab_new hX dL_law_0 ns_L_law_8 ?_
  show ab_WA G (mLW nm) X _ _ [.ref 0] [iX .null .null .null .null .null .null .null]
  refine ab_dup hX dL_law_3 rfl ?_
  refine ab_callI0 hX dL_law_4 ss_L_law_17 (i_X11 hG) (Nat.le_of_ble_eq_true rfl) ?_
  refine ab_astore_n hX dL_law_7 rfl (show 1 < 8 by decide) rfl ?_
  refine ab_new hX dL_law_8 ns_L_law_18 ?_
  show ab_WA G (mLW nm) X _ _ [.ref 42] (cC cz ++ [.inr (13, [.int 0, .int 0, .null, .int 0, .null, .int 0, .null, .null, .null, .null, .null, .null, .int 0, .int 0, .null, .int 0, .null, .null, .long 0, .long 0, .int 0, .int 0])])
  refine ab_dup hX dL_law_11 rfl ?_
  refine ab_callI0 hX dL_law_12 ss_L_law_20 (i_X12 hG (A := cC cz) rfl) (Nat.le_of_ble_eq_true rfl) ?_
  refine ab_astore_n hX dL_law_15 rfl (show 2 < 8 by decide) rfl ?_
  refine ab_iconst (v := 1) hX dL_law_16 (by decide) ?_
  refine ab_newlong (N := 1) hX dL_law_17 tw_140 (by decide) rfl (by decide) ?_
  rw [List.append_assoc]
  show ab_WA G (mLW nm) X _ _ [.ref 54] (cH cz (mC mz) [eCell (fun _ => 0)])
  refine ab_astore_n hX dL_law_19 rfl (show 3 < 8 by decide) rfl ?_
  refine ab_iconst (v := 0) hX dL_law_20 (by decide) ?_
  refine ab_istore hX dL_law_21 (show 4 < 8 by decide) rfl ?_
  exact lw_loop hG hGX hX hsc hL fin 513 0 cz [eCell (fun _ => 0)] eQ 0 mz rfl e_LI
theorem e_wv : ∀ j : Nat, j < 6 → j = 0 ∨ j = 1 ∨ j = 2 ∨ j = 3 ∨ j = 4 ∨ j = 5 := by omega
theorem whole_start {p : Program} {e : Env} {s : State} {m : MethodId} {below : List Frame} {meth : Method} {c : Code} (l : Launch) (hflags : l.flags = flags0) {b L : Nat} {xs : Nat → Int32} (hL : L ≤ 3072) (C0 : lw_At p s m meth c b L xs) : W p l e room_1 s m #[Value.ref b] below meth c s.heap [] 0 0 (lw_Z below #[Value.ref b] s) (entryFrame m ([Value.ref b] : List Value).toArray 8) := by
  obtain ⟨hx, hb, hr, hml, hown, hts, hX, hbl, hlocks, hgv⟩ := id C0
  have hs := flat_of_before _ hgv
  have hT : ∀ w ∈ ab_Tg, w.before #[Value.ref b] s = true := fun w hw => hts w (List.mem_filter.mp hw).1
  have hN : ∀ w ∈ ab_Tn, va_Nw w s := fun w hw => e_nest (List.mem_filter.mp hw).2 (hts w (List.mem_filter.mp hw).1)
  have hA : ∀ a : Nat, a < s.heap.size → ¬ (fun q : Nat => s.heap.size ≤ q) a := fun a h => Nat.not_le.mpr h
  obtain ⟨D, hD⟩ := e_cls hT
  obtain ⟨f, f0, f1, f2, f3⟩ := e_arr hT hN
  obtain ⟨t0, h0, hT0⟩ := va_Tof (tm := .static "java/util/ArrayList" "DEFAULTCAPACITY_EMPTY_ELEMENTDATA" "[Ljava/lang/Object;") (N := 0) (f := fun _ => .null) (A := fun q : Nat => s.heap.size ≤ q) (by decide) (hs (.arrayOf (.static "java/util/ArrayList" "DEFAULTCAPACITY_EMPTY_ELEMENTDATA" "[Ljava/lang/Object;") (.object "java/lang/Object")) (by decide +kernel)) (va_eqt (hs (.eq (.length (.static "java/util/ArrayList" "DEFAULTCAPACITY_EMPTY_ELEMENTDATA" "[Ljava/lang/Object;")) (.int 0)) (by decide +kernel))) (fun j hj => absurd hj (Nat.not_lt_zero _)) hA
  obtain ⟨t2, h2, hT2⟩ := va_Tof (tm := .static "WitnessesMustLie" "WORLDS_WITH" "[J") (N := 6) (f := fun j => .long (ab_wv j)) (A := fun q : Nat => s.heap.size ≤ q) (by decide) (hs (.arrayOf (.static "WitnessesMustLie" "WORLDS_WITH" "[J") .long) (by decide +kernel)) (va_eqt (hs (.eq (.length (.static "WitnessesMustLie" "WORLDS_WITH" "[J")) (.int 6)) (by decide +kernel))) (fun j hj => by
    obtain rfl | rfl | rfl | rfl | rfl | rfl := e_wv j hj
    · exact va_eqtl (hs (.eq (.elem (.static "WitnessesMustLie" "WORLDS_WITH" "[J") (.int 0)) (.long (-6148914691236517206))) (by decide +kernel))
    · exact va_eqtl (hs (.eq (.elem (.static "WitnessesMustLie" "WORLDS_WITH" "[J") (.int 1)) (.long (-3689348814741910324))) (by decide +kernel))
    · exact va_eqtl (hs (.eq (.elem (.static "WitnessesMustLie" "WORLDS_WITH" "[J") (.int 2)) (.long (-1085102592571150096))) (by decide +kernel))
    · exact va_eqtl (hs (.eq (.elem (.static "WitnessesMustLie" "WORLDS_WITH" "[J") (.int 3)) (.long (-71777214294589696))) (by decide +kernel))
    · exact va_eqtl (hs (.eq (.elem (.static "WitnessesMustLie" "WORLDS_WITH" "[J") (.int 4)) (.long (-281470681808896))) (by decide +kernel))
    · exact va_eqtl (hs (.eq (.elem (.static "WitnessesMustLie" "WORLDS_WITH" "[J") (.int 5)) (.long (-4294967296))) (by decide +kernel))) hA
  obtain ⟨G, hGd⟩ : ∃ G : ab_G, G = (D, s.heap.size, (fun j => match j with | 0 => t0 | 1 => b | _ => t2), f, s, l) := ⟨_, rfl⟩
  have hG : ab_GG G := by
    subst hGd
    refine ⟨⟨hD, fun k q hk => ?_⟩, rfl, ⟨va_Zof (hts _ tv_0) (hT _ tw_48) h0 hA, ?_⟩, ?_, ⟨va_Zof (hts _ tv_3) (hT _ tw_45) h2 hA, ?_⟩, hT2, hN⟩
    · match k, hk with
      | 0, hk => cases (Option.some.inj hk); exact f0
      | 1, hk => cases (Option.some.inj hk); exact f1
      | 2, hk => cases (Option.some.inj hk); exact f2
      | 3, hk => cases (Option.some.inj hk); exact f3
      | k + 4, hk => cases hk
    · obtain ⟨cell, -, -, -, -, -, -, q⟩ := hT0
      exact Nat.not_le.mp q
    · obtain ⟨cell, q1, q2, -, -, q5, -, -⟩ := hT0
      exact ⟨cell, q1, q2, q5⟩
    · obtain ⟨cell, -, -, -, -, -, -, q⟩ := hT2
      exact Nat.not_le.mp q
  have hstr : ∀ {cls : String} {ix : Nat} {tx : String} {cur : Nat}, s.vm.findClass cls = some cur → (Cond.stringRef cls ix tx).before #[Value.ref b] s = true → ∃ a, vk_R cls ix tx a s := fun {cls ix tx cur} hc h9 => by
    obtain ⟨k, cf, i, a, -, -, -, -, -, q6⟩ := Cond.stringRef_spec hc h9
    exact ⟨a, vk_R.of h9 q6⟩
  have hW : s.vm.findClass "WitnessesMustLie" = some (D.1 12) := (hD 12 _ rfl).2.1
  have hSa : s.vm.findClass "WitnessesMustLie$Says" = some (D.1 9) := (hD 9 _ rfl).2.1
  have hGX : ab_GX G := by
    subst hGd
    refine ⟨?_, vx_Zqof (hts _ tv_12) (hT _ tw_69) (hs (.isRef (.static "java/lang/Throwable" "UNASSIGNED_STACK" "[Ljava/lang/StackTraceElement;")) (by decide +kernel)) hA, vx_Zqof (hts _ tv_13) (hT _ tw_69) (hs (.isRef (.static "java/lang/Throwable" "SUPPRESSED_SENTINEL" "Ljava/util/List;")) (by decide +kernel)) hA, hstr hSa (hts _ tv_16), hstr hW (hts _ tv_18), hstr hW (hts _ tv_19), hstr hW (hts _ tv_20), va_Nc.of (hs (.not (.castable "java/lang/IllegalStateException" "java/lang/IllegalArgumentException")) (by decide +kernel)), fun x hx9 => va_any rfl (hts _ hx9)⟩
    show l.stackTraces = false
    unfold Launch.stackTraces
    rw [hflags]
    decide +kernel
  have hXG : ab_Good G (mLW meth.name) (p, e, room_1, s, m, #[Value.ref b], below, meth, c, lw_Z below #[Value.ref b] s, []) := by
    subst hGd
    exact ⟨hx, hb, hml, hr, hlocks, hown, hT, State.WarmedH.refl s, rfl, fun _ _ => rfl, rfl, rfl, rfl, hG⟩
  have hsc : va_X (G.2.2.1 1) L xs G.2.2.2.2.1 G.2.2.2.2.1.heap ∧ G.2.2.1 1 < G.2.1 := by
    subst hGd
    exact ⟨hX, hbl⟩
  have hG21 : G.2.1 = s.heap.size := by rw [hGd]
  have w := e_law hG hGX hXG hsc hL (fun l9 h9 q1 q2 => by
    refine ab_iconst (v := 1) hXG dL_law_1618 (by decide) ?_
    refine ⟨Nat.le_trans q1 (show 51400 ≤ 0 + 601024 by decide), Nat.le_trans q2 (show 520000 ≤ 0 + 7293034 by decide), fun ls H locs _ _ hl hR hS => ?_⟩
    refine va_forget (fun q hq => by have := hS.2.2 q hq; unfold ab_A at this; rw [hG21] at this; exact this) ?_
    have hl9 : l = G.2.2.2.2.2 := by rw [hGd]
    rw [← hl9]
    refine W.widen (k := 601024) (n := 7293034) (Nat.le_trans (Nat.sub_le _ _) (Nat.le_trans q1 (by decide))) (Nat.le_trans (Nat.sub_le _ _) (Nat.le_trans q2 (by decide))) ?_
    exact lw_ret hx hb hr hlocks dL_law_1619)
  have hl := lv_entry ([.ref b]) (n := 8) (Nat.le_of_ble_eq_true rfl)
  rw [lg_entry_eq]
  have hR0 : ab_RH G [] s.heap := by
    subst hGd
    exact ⟨fun k q h => (by cases h), rfl, fun _ _ => rfl⟩
  have hl2 : l = G.2.2.2.2.2 := by rw [hGd]
  have hll : ab_ll G [(0, .float 1)] = [(0, .ref b)] := by
    subst hGd
    rfl
  have w2 := w.2.2 _ s.heap [] (Nat.le_refl _) (Nat.le_refl _) (by rw [hll]; exact hl) hR0 va_S.rf
  rw [← hl2] at w2
  exact w2
