/-! the law's entry and end -/
theorem e_nest {w : Cond} (hw : ab_isN w = true) {args : Array Value} {s : State} (h : w.before args s = true) : va_Nw w s := by
  cases w with
  | fieldLinkNest => exact va_any rfl h
  | methodLinkNest => exact va_any rfl h
  | castable => exact va_any rfl h
  | arrayOver ty =>
    cases ty with
    | object C => exact h
    | _ => cases hw
  | _ => cases hw
theorem e_cls {args : Array Value} {s : State} (hT : ∀ w ∈ ab_Tg, w.before args s = true) : ∃ D : va_G, ∀ (ci : Nat) (q : vw_C), ab_cls[ci]? = some q → u_Kn s q.1 q.2.1 q.2.2 (D.1 ci) (D.2 ci) := by
  have h : ∀ ci : Nat, ∃ x : ClassId × (Nat → Nat), ∀ q, ab_cls[ci]? = some q → u_Kn s q.1 q.2.1 q.2.2 x.1 x.2 := by
    intro ci
    match ci with
    | 0 =>
      obtain ⟨a, b, h⟩ := u_known (C := RJx4a65c) (T := TJx4a65c) (N := 3) (n := 3) hT zf_Jx4a65c (hT _ tw_56)
      exact ⟨(a, b), fun q hq => by cases (Option.some.inj (show some (RJx4a65c, TJx4a65c, 3) = some q from hq)); exact h⟩
    | 1 =>
      obtain ⟨a, b, h⟩ := u_known (C := RX0) (T := TX0) (N := 1) (n := 1) hT zf_X0 (hT _ tw_204)
      exact ⟨(a, b), fun q hq => by cases (Option.some.inj (show some (RX0, TX0, 1) = some q from hq)); exact h⟩
    | 2 =>
      obtain ⟨a, b, h⟩ := u_known (C := RX1) (T := TX1) (N := 1) (n := 1) hT zf_X1 (hT _ tw_180)
      exact ⟨(a, b), fun q hq => by cases (Option.some.inj (show some (RX1, TX1, 1) = some q from hq)); exact h⟩
    | 3 =>
      obtain ⟨a, b, h⟩ := u_known (C := RX2) (T := TX2) (N := 1) (n := 1) hT zf_X2 (hT _ tw_172)
      exact ⟨(a, b), fun q hq => by cases (Option.some.inj (show some (RX2, TX2, 1) = some q from hq)); exact h⟩
    | 4 =>
      obtain ⟨a, b, h⟩ := u_known (C := RX3) (T := TX3) (N := 1) (n := 1) hT zf_X3 (hT _ tw_188)
      exact ⟨(a, b), fun q hq => by cases (Option.some.inj (show some (RX3, TX3, 1) = some q from hq)); exact h⟩
    | 5 =>
      obtain ⟨a, b, h⟩ := u_known (C := RX4) (T := TX4) (N := 1) (n := 1) hT zf_X4 (hT _ tw_212)
      exact ⟨(a, b), fun q hq => by cases (Option.some.inj (show some (RX4, TX4, 1) = some q from hq)); exact h⟩
    | 6 =>
      obtain ⟨a, b, h⟩ := u_known (C := RX5) (T := TX5) (N := 1) (n := 1) hT zf_X5 (hT _ tw_196)
      exact ⟨(a, b), fun q hq => by cases (Option.some.inj (show some (RX5, TX5, 1) = some q from hq)); exact h⟩
    | 7 =>
      obtain ⟨a, b, h⟩ := u_known (C := RX6) (T := TX6) (N := 1) (n := 1) hT zf_X6 (hT _ tw_220)
      exact ⟨(a, b), fun q hq => by cases (Option.some.inj (show some (RX6, TX6, 1) = some q from hq)); exact h⟩
    | 8 =>
      obtain ⟨a, b, h⟩ := u_known (C := RX7) (T := TX7) (N := 6) (n := 6) hT zf_X7 (hT _ tw_360)
      exact ⟨(a, b), fun q hq => by cases (Option.some.inj (show some (RX7, TX7, 6) = some q from hq)); exact h⟩
    | 9 =>
      obtain ⟨a, b, h⟩ := u_known (C := RX8) (T := TX8) (N := 1) (n := 1) hT zf_X8 (hT _ tw_104)
      exact ⟨(a, b), fun q hq => by cases (Option.some.inj (show some (RX8, TX8, 1) = some q from hq)); exact h⟩
    | 10 =>
      obtain ⟨a, b, h⟩ := u_known (C := RX9) (T := TX9) (N := 6) (n := 6) hT zf_X9 (hT _ tw_227)
      exact ⟨(a, b), fun q hq => by cases (Option.some.inj (show some (RX9, TX9, 6) = some q from hq)); exact h⟩
    | 11 =>
      obtain ⟨a, b, h⟩ := u_known (C := RX10) (T := TX10) (N := 5) (n := 5) hT zf_X10 (hT _ tw_80)
      exact ⟨(a, b), fun q hq => by cases (Option.some.inj (show some (RX10, TX10, 5) = some q from hq)); exact h⟩
    | 12 =>
      obtain ⟨a, b, h⟩ := u_known (C := RX11) (T := TX11) (N := 8) (n := 8) hT zf_X11 (hT _ tw_48)
      exact ⟨(a, b), fun q hq => by cases (Option.some.inj (show some (RX11, TX11, 8) = some q from hq)); exact h⟩
    | k + 13 => exact ⟨(0, fun _ => 0), fun q hq => by cases (show none = some q from hq)⟩
  exact ⟨(fun ci => (Classical.choose (h ci)).1, fun ci => (Classical.choose (h ci)).2), fun ci q hq => Classical.choose_spec (h ci) q hq⟩
theorem e_arr {args : Array Value} {s : State} (hT : ∀ w ∈ ab_Tg, w.before args s = true) (hN : ∀ w ∈ ab_Tn, va_Nw w s) : ∃ f : Nat → ClassId, (ArrOfT s (f 0) .int ∧ va_RA s (f 0) .int) ∧ (ArrOfT s (f 1) .long ∧ va_RA s (f 1) .long) ∧ (ArrOfT s (f 2) (.object "java/lang/Object") ∧ va_RA s (f 2) (.object "java/lang/Object")) ∧ (ArrOfT s (f 3) (.object "WitnessesMustLie$Shelf") ∧ va_RA s (f 3) (.object "WitnessesMustLie$Shelf")) := by
  obtain ⟨c0, k0, m0, a1, a2, a3⟩ := Cond.arrayClass_spec (hT _ tw_102)
  obtain ⟨c1, k1, m1, b1, b2, b3⟩ := Cond.arrayClass_spec (hT _ tw_113)
  obtain ⟨m2, c2, k2, d1, d2, d3, d4, d5⟩ := Cond.arrayOver_spec (hN _ tw_162)
  obtain ⟨m3, c3, k3, g1, g2, g3, g4, g5⟩ := Cond.arrayOver_spec (hN _ tw_78)
  refine ⟨fun k => match k with | 0 => c0 | 1 => c1 | 2 => c2 | _ => c3, ⟨?_, a1⟩, ⟨?_, b1⟩, ⟨?_, k2, m2, d3, d4, d1, d5⟩, ⟨?_, k3, m3, g3, g4, g1, g5⟩⟩
  · exact fun n z => ⟨fun k h => (by cases h), k0, a2, m0, a3⟩
  · exact fun n z => ⟨fun k h => (by cases h), k1, b2, m1, b3⟩
  · exact fun n z => ⟨fun k h => (by cases h), k2, d3, m2, d4⟩
  · exact fun n z => ⟨fun k h => (by cases h), k3, g3, m3, g4⟩
theorem tv_0 : (Jvm.Cond.laysStatic "java/util/ArrayList" "DEFAULTCAPACITY_EMPTY_ELEMENTDATA" "[Ljava/lang/Object;") ∈ lw_tbl := (List.mem_append_right _ (List.mem_append_left _ (List.mem_of_getElem? (i := 50) rfl)))
theorem tv_3 : (Jvm.Cond.laysStatic "WitnessesMustLie" "WORLDS_WITH" "[J") ∈ lw_tbl := (List.mem_append_right _ (List.mem_append_right _ (List.mem_append_left _ (List.mem_of_getElem? (i := 154) rfl))))
theorem e_wv : ∀ j : Nat, j < 6 → j = 0 ∨ j = 1 ∨ j = 2 ∨ j = 3 ∨ j = 4 ∨ j = 5 := by omega
theorem whole_start {p : Program} {e : Env} {s : State} {m : MethodId} {below : List Frame} {meth : Method} {c : Code} (l : Launch) (hflags : l.flags = flags0) {b L : Nat} {xs : Nat → Int32} (hL : L ≤ 260) (C0 : lw_At p s m meth c b L xs) : W p l e room_1 s m #[Value.ref b] below meth c s.heap [] 0 0 (lw_Z below #[Value.ref b] s) (entryFrame m ([Value.ref b] : List Value).toArray 15) := by
  obtain ⟨hx, hb, hr, hml, hown, hts, hX, hbl, hlocks, hgv⟩ := id C0
  have hs := flat_of_before _ hgv
  have hT : ∀ w ∈ ab_Tg, w.before #[Value.ref b] s = true := fun w hw => hts w (List.mem_filter.mp hw).1
  have hN : ∀ w ∈ ab_Tn, va_Nw w s := fun w hw => e_nest (List.mem_filter.mp hw).2 (hts w (List.mem_filter.mp hw).1)
  have hA : ∀ a : Nat, a < s.heap.size → ¬ (fun q : Nat => s.heap.size ≤ q) a := fun a h => Nat.not_le.mpr h
  obtain ⟨D, hD⟩ := e_cls hT
  obtain ⟨f, f0, f1, f2, f3⟩ := e_arr hT hN
  obtain ⟨t0, h0, hT0⟩ := va_Tof (tm := .static "java/util/ArrayList" "DEFAULTCAPACITY_EMPTY_ELEMENTDATA" "[Ljava/lang/Object;") (N := 0) (f := fun _ => .null) (A := fun q : Nat => s.heap.size ≤ q) (by decide) (hs (.arrayOf (.static "java/util/ArrayList" "DEFAULTCAPACITY_EMPTY_ELEMENTDATA" "[Ljava/lang/Object;") (.object "java/lang/Object")) (by decide +kernel)) (va_eqt (hs (.eq (.length (.static "java/util/ArrayList" "DEFAULTCAPACITY_EMPTY_ELEMENTDATA" "[Ljava/lang/Object;")) (.int 0)) (by decide +kernel))) (fun j hj => absurd hj (Nat.not_lt_zero _)) hA
  obtain ⟨t2, h2, hT2⟩ := va_Tof (tm := .static "WitnessesMustLie" "WORLDS_WITH" "[J") (N := 6) (f := fun j => .long (ab_wv j)) (A := fun q : Nat => s.heap.size ≤ q) (by decide) (hs (.arrayOf (.static "WitnessesMustLie" "WORLDS_WITH" "[J") .long) (by decide +kernel)) (va_eqt (hs (.eq (.length (.static "WitnessesMustLie" "WORLDS_WITH" "[J")) (.int 6)) (by decide +kernel))) (fun j hj => by
    obtain rfl | rfl | rfl | rfl | rfl | rfl := e_wv j hj
    · exact va_eqtl (hs (.eq (.elem (.static "WitnessesMustLie" "WORLDS_WITH" "[J") (.int 0)) (.long (-6148914691236517206))) (by decide +kernel))
    · exact va_eqtl (hs (.eq (.elem (.static "WitnessesMustLie" "WORLDS_WITH" "[J") (.int 1)) (.long (-3689348814741910324))) (by decide +kernel))
    · exact va_eqtl (hs (.eq (.elem (.static "WitnessesMustLie" "WORLDS_WITH" "[J") (.int 2)) (.long (-1085102592571150096))) (by decide +kernel))
    · exact va_eqtl (hs (.eq (.elem (.static "WitnessesMustLie" "WORLDS_WITH" "[J") (.int 3)) (.long (-71777214294589696))) (by decide +kernel))
    · exact va_eqtl (hs (.eq (.elem (.static "WitnessesMustLie" "WORLDS_WITH" "[J") (.int 4)) (.long (-281470681808896))) (by decide +kernel))
    · exact va_eqtl (hs (.eq (.elem (.static "WitnessesMustLie" "WORLDS_WITH" "[J") (.int 5)) (.long (-4294967296))) (by decide +kernel))) hA
  obtain ⟨G, hGd⟩ : ∃ G : ab_G, G = (D, s.heap.size, (fun j => match j with | 0 => t0 | 1 => b | _ => t2), f, s, l) := ⟨_, rfl⟩
  have hG : ab_GG G := by
    subst hGd
    refine ⟨⟨hD, fun k q hk => ?_⟩, rfl, ⟨va_Zof (hts _ tv_0) (hT _ tw_22) h0 hA, ?_⟩, ?_, ⟨va_Zof (hts _ tv_3) (hT _ tw_19) h2 hA, ?_⟩, hT2, hN⟩
    · match k, hk with
      | 0, hk => cases (Option.some.inj hk); exact f0
      | 1, hk => cases (Option.some.inj hk); exact f1
      | 2, hk => cases (Option.some.inj hk); exact f2
      | 3, hk => cases (Option.some.inj hk); exact f3
      | k + 4, hk => cases hk
    · obtain ⟨cell, -, -, -, -, -, -, q⟩ := hT0
      exact Nat.not_le.mp q
    · obtain ⟨cell, q1, q2, -, -, q5, -, -⟩ := hT0
      exact ⟨cell, q1, q2, q5⟩
    · obtain ⟨cell, -, -, -, -, -, -, q⟩ := hT2
      exact Nat.not_le.mp q
  have hXG : ab_Good G (mLW meth.name) (p, e, room_1, s, m, #[Value.ref b], below, meth, c, lw_Z below #[Value.ref b] s, []) := by
    subst hGd
    exact ⟨hx, hb, hml, hr, hlocks, hown, hT, State.WarmedH.refl s, rfl, fun _ _ => rfl, rfl, rfl, rfl, hG⟩
  have hsc : va_X (G.2.2.1 1) L xs G.2.2.2.2.1 G.2.2.2.2.1.heap ∧ G.2.2.1 1 < G.2.1 := by
    subst hGd
    exact ⟨hX, hbl⟩
  have hG21 : G.2.1 = s.heap.size := by rw [hGd]
  have w := e_law ⟨hG, hsc⟩ hXG hL (fun l9 h9 q1 q2 => by
    refine ab_iconst (v := 1) hXG dL_law_1301 (by decide) ?_
    refine ab_goto (tgt := 1306) hXG dL_law_1302 (by decide) ?_
    refine ⟨Nat.le_trans q1 (Nat.le_of_ble_eq_true rfl), Nat.le_trans q2 (Nat.le_of_ble_eq_true rfl), fun ls H locs _ _ hl hR hS => ?_⟩
    refine va_forget (fun q hq => by have := hS.2.2 q hq; unfold ab_A at this; rw [hG21] at this; exact this) ?_
    have hl9 : l = G.2.2.2.2.2 := by rw [hGd]
    rw [← hl9]
    refine W.widen (k := 600086) (n := 7301442) (Nat.le_trans (Nat.sub_le _ _) (Nat.le_trans q1 (Nat.le_of_ble_eq_true rfl))) (Nat.le_trans (Nat.sub_le _ _) (Nat.le_trans q2 (Nat.le_of_ble_eq_true rfl))) ?_
    exact lw_ret hx hb hr hlocks dL_law_1306)
  have hl := lv_entry ([.ref b]) (n := 15) (Nat.le_of_ble_eq_true rfl)
  rw [lg_entry_eq]
  have hR0 : ab_RH G [] s.heap := by
    subst hGd
    exact ⟨fun k q h => (by cases h), rfl, fun _ _ => rfl⟩
  have hl2 : l = G.2.2.2.2.2 := by rw [hGd]
  have hll : ab_ll G [(0, .float 1)] = [(0, .ref b)] := by
    subst hGd
    rfl
  have w2 := w.2.2 _ s.heap [] (Nat.le_refl _) (Nat.le_refl _) (by rw [hll]; exact hl) hR0 va_S.rf
  rw [← hl2] at w2
  exact w2
