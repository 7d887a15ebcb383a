/-! the constructors -/
abbrev iA : ab_E := .inr (0, [.int 0, .float 0, .int 0])
abbrev iA0 : ab_E := .inr (0, [.int 0, .null, .int 0])
abbrev iK : ab_E := .inl (0, 5, .inl (fun _ => 0))
abbrev iN : ab_E := .inl (0, 100, .inl (fun _ => 0))
abbrev iT (a b c : Value) : ab_E := .inr (11, [a, b, c, .int 0, .int 0])
abbrev iS (a k : Value) : ab_E := .inr (10, [a, .int 0, k, .int 0, .int 0, .int 0])
abbrev iL : ab_E := .inl (1, 288, .inr (.inl (fun _ => 0)))
abbrev iX (a b c d e f g : Value) : ab_E := .inr (12, [a, b, c, d, e, .int 0, f, g])
abbrev iC (n : Int32) (v : Value) : ab_E := .inr (0, [.int n, v, .int n])
def kiF (n : Nat) (k : Nat) : Option Nat := if k < n then some (kR k) else none
def shF (n : Nat) (k : Nat) : Option Nat := if k < n then some (26 + 2 * k) else none
abbrev iKA (n : Nat) : ab_E := .inl (2, 10, .inr (.inr (.inr (.inr (kiF n)))))
abbrev iSA (n : Nat) : ab_E := .inl (3, 8, .inr (.inr (.inr (.inr (shF n)))))
abbrev iQ (ci : Nat) (n : Int32) : ab_E := .inr (ci, [.int n])
theorem up_ki {n r : Nat} (h : r = kR n) : va_up (kiF n) n (some r) = kiF (n + 1) := by
  funext k
  unfold va_up kiF
  by_cases e : k = n
  · subst e
    rw [if_pos rfl, if_pos (Nat.lt_succ_self _), h]
  · rw [if_neg e]
    by_cases l : k < n
    · rw [if_pos l, if_pos (by omega)]
    · rw [if_neg l, if_neg (by omega)]
theorem up_ki0 : va_up (fun _ => none) 0 (some 17) = kiF 1 := by
  rw [show (fun _ => none : Nat → Option Nat) = kiF 0 from funext fun k => (if_neg (Nat.not_lt_zero k)).symm]
  exact up_ki rfl
theorem up_sh {n r : Nat} (h : r = 26 + 2 * n) : va_up (shF n) n (some r) = shF (n + 1) := by
  funext k
  unfold va_up shF
  by_cases e : k = n
  · subst e
    rw [if_pos rfl, if_pos (Nat.lt_succ_self _), h]
  · rw [if_neg e]
    by_cases l : k < n
    · rw [if_pos l, if_pos (by omega)]
    · rw [if_neg l, if_neg (by omega)]
theorem shF_0 : shF 0 = fun _ => none := funext fun k => if_neg (Nat.not_lt_zero k)
theorem i_X8 {G : ab_G} (hG : ab_GG G) {h : List ab_E} {b ci : Nat} (hs : ab_ps mX8_init 9 ci 0 .int) {x : Int32} (hb : h[b]? = some (.inr (ci, [.int x]))) {n : Int32} : ab_CM G mX8_init [.ref b, .int n] h none (h.set b (.inr (ci, [.int n]))) := by
  refine ab_meth (l0 := [(0, .ref b), (1, .int n)]) hG (by decide +kernel) rfl (Nat.le_of_ble_eq_true rfl) gl_s (gz_s hb rfl) (fun X hX hF => ?_)
  refine ab_aload_n hX dX8_init_0 mm0 ?_
  refine ab_objInit hX dX8_init_1 so_X8_init_3 (by decide) (Nat.le_of_ble_eq_true rfl) ?_
  refine ab_aload_n hX dX8_init_4 mm0 ?_
  refine ab_iload_n hX dX8_init_5 mm1 ?_
  refine ab_putfield hX dX8_init_6 hs hb (Nat.le_of_ble_eq_true rfl) rfl rfl rfl ?_
  exact ab_vreturn hX hF dX8_init_9 rfl rfl rfl
theorem i_X1 {G : ab_G} (hG : ab_GG G) {h : List ab_E} {b ci : Nat} (hs : ab_ps mX8_init 9 ci 0 .int) {x : Int32} (hb : h[b]? = some (.inr (ci, [.int x]))) {n : Int32} : ab_CM G mX1_init [.ref b, .int n] h none (h.set b (.inr (ci, [.int n]))) := by
  refine ab_meth (l0 := [(0, .ref b), (1, .int n)]) hG (by decide +kernel) rfl (Nat.le_of_ble_eq_true rfl) gl_s (gz_s hb rfl) (fun X hX hF => ?_)
  refine ab_aload_n hX dX1_init_0 mm0 ?_
  refine ab_iload_n hX dX1_init_1 mm1 ?_
  refine ab_callI1 hX dX1_init_2 ss_X1_init_1 (i_X8 hG hs hb) (Nat.le_of_ble_eq_true rfl) ?_
  exact ab_vreturn hX hF dX1_init_5 rfl rfl rfl
theorem i_X2 {G : ab_G} (hG : ab_GG G) {h : List ab_E} {b ci : Nat} (hs : ab_ps mX8_init 9 ci 0 .int) {x : Int32} (hb : h[b]? = some (.inr (ci, [.int x]))) {n : Int32} : ab_CM G mX2_init [.ref b, .int n] h none (h.set b (.inr (ci, [.int n]))) := by
  refine ab_meth (l0 := [(0, .ref b), (1, .int n)]) hG (by decide +kernel) rfl (Nat.le_of_ble_eq_true rfl) gl_s (gz_s hb rfl) (fun X hX hF => ?_)
  refine ab_aload_n hX dX2_init_0 mm0 ?_
  refine ab_iload_n hX dX2_init_1 mm1 ?_
  refine ab_callI1 hX dX2_init_2 ss_X2_init_1 (i_X8 hG hs hb) (Nat.le_of_ble_eq_true rfl) ?_
  exact ab_vreturn hX hF dX2_init_5 rfl rfl rfl
theorem i_X3 {G : ab_G} (hG : ab_GG G) {h : List ab_E} {b ci : Nat} (hs : ab_ps mX8_init 9 ci 0 .int) {x : Int32} (hb : h[b]? = some (.inr (ci, [.int x]))) {n : Int32} : ab_CM G mX3_init [.ref b, .int n] h none (h.set b (.inr (ci, [.int n]))) := by
  refine ab_meth (l0 := [(0, .ref b), (1, .int n)]) hG (by decide +kernel) rfl (Nat.le_of_ble_eq_true rfl) gl_s (gz_s hb rfl) (fun X hX hF => ?_)
  refine ab_aload_n hX dX3_init_0 mm0 ?_
  refine ab_iload_n hX dX3_init_1 mm1 ?_
  refine ab_callI1 hX dX3_init_2 ss_X3_init_1 (i_X1 hG hs hb) (Nat.le_of_ble_eq_true rfl) ?_
  exact ab_vreturn hX hF dX3_init_5 rfl rfl rfl
theorem i_X4 {G : ab_G} (hG : ab_GG G) {h : List ab_E} {b ci : Nat} (hs : ab_ps mX8_init 9 ci 0 .int) {x : Int32} (hb : h[b]? = some (.inr (ci, [.int x]))) {n : Int32} : ab_CM G mX4_init [.ref b, .int n] h none (h.set b (.inr (ci, [.int n]))) := by
  refine ab_meth (l0 := [(0, .ref b), (1, .int n)]) hG (by decide +kernel) rfl (Nat.le_of_ble_eq_true rfl) gl_s (gz_s hb rfl) (fun X hX hF => ?_)
  refine ab_aload_n hX dX4_init_0 mm0 ?_
  refine ab_iload_n hX dX4_init_1 mm1 ?_
  refine ab_callI1 hX dX4_init_2 ss_X4_init_1 (i_X2 hG hs hb) (Nat.le_of_ble_eq_true rfl) ?_
  exact ab_vreturn hX hF dX4_init_5 rfl rfl rfl
theorem i_X5 {G : ab_G} (hG : ab_GG G) {h : List ab_E} {b ci : Nat} (hs : ab_ps mX8_init 9 ci 0 .int) {x : Int32} (hb : h[b]? = some (.inr (ci, [.int x]))) {n : Int32} : ab_CM G mX5_init [.ref b, .int n] h none (h.set b (.inr (ci, [.int n]))) := by
  refine ab_meth (l0 := [(0, .ref b), (1, .int n)]) hG (by decide +kernel) rfl (Nat.le_of_ble_eq_true rfl) gl_s (gz_s hb rfl) (fun X hX hF => ?_)
  refine ab_aload_n hX dX5_init_0 mm0 ?_
  refine ab_iload_n hX dX5_init_1 mm1 ?_
  refine ab_callI1 hX dX5_init_2 ss_X5_init_1 (i_X3 hG hs hb) (Nat.le_of_ble_eq_true rfl) ?_
  exact ab_vreturn hX hF dX5_init_5 rfl rfl rfl
theorem i_X6 {G : ab_G} (hG : ab_GG G) {h : List ab_E} {b ci : Nat} (hs : ab_ps mX8_init 9 ci 0 .int) {x : Int32} (hb : h[b]? = some (.inr (ci, [.int x]))) {n : Int32} : ab_CM G mX6_init [.ref b, .int n] h none (h.set b (.inr (ci, [.int n]))) := by
  refine ab_meth (l0 := [(0, .ref b), (1, .int n)]) hG (by decide +kernel) rfl (Nat.le_of_ble_eq_true rfl) gl_s (gz_s hb rfl) (fun X hX hF => ?_)
  refine ab_aload_n hX dX6_init_0 mm0 ?_
  refine ab_iload_n hX dX6_init_1 mm1 ?_
  refine ab_callI1 hX dX6_init_2 ss_X6_init_3 (i_X3 hG hs hb) (Nat.le_of_ble_eq_true rfl) ?_
  exact ab_vreturn hX hF dX6_init_5 rfl rfl rfl
theorem i_X0 {G : ab_G} (hG : ab_GG G) {h : List ab_E} {b ci : Nat} (hs : ab_ps mX8_init 9 ci 0 .int) {x : Int32} (hb : h[b]? = some (.inr (ci, [.int x]))) {n : Int32} : ab_CM G mX0_init [.ref b, .int n] h none (h.set b (.inr (ci, [.int n]))) := by
  refine ab_meth (l0 := [(0, .ref b), (1, .int n)]) hG (by decide +kernel) rfl (Nat.le_of_ble_eq_true rfl) gl_s (gz_s hb rfl) (fun X hX hF => ?_)
  refine ab_aload_n hX dX0_init_0 mm0 ?_
  refine ab_iload_n hX dX0_init_1 mm1 ?_
  refine ab_callI1 hX dX0_init_2 ss_X0_init_1 (i_X1 hG hs hb) (Nat.le_of_ble_eq_true rfl) ?_
  exact ab_vreturn hX hF dX0_init_5 rfl rfl rfl
theorem ns_X10_init_9 : ab_ns mX10_init 9 0 [.int 0, .null, .int 0] := ⟨_, _, _, tyJx4a65c, rfl, zf_Jx4a65c, tyJx4a65c_ok, tw_85, tw_56, tw_22, fun G j hj => by
  obtain rfl | rfl | rfl : j = 0 ∨ j = 1 ∨ j = 2 := by omega
  all_goals rfl⟩
theorem ns_X11_init_9 : ab_ns mX11_init 9 0 [.int 0, .null, .int 0] := ⟨_, _, _, tyJx4a65c, rfl, zf_Jx4a65c, tyJx4a65c_ok, tw_55, tw_56, tw_22, fun G j hj => by
  obtain rfl | rfl | rfl : j = 0 ∨ j = 1 ∨ j = 2 := by omega
  all_goals rfl⟩
theorem ns_X11_init_22 : ab_ns mX11_init 22 11 [.null, .null, .null, .int 0, .int 0] := ⟨_, _, _, tyX10, rfl, zf_X10, tyX10_ok, tw_79, tw_80, tw_23, fun G j hj => by
  obtain rfl | rfl | rfl | rfl | rfl : j = 0 ∨ j = 1 ∨ j = 2 ∨ j = 3 ∨ j = 4 := by omega
  all_goals rfl⟩
theorem ns_X11_init_16 : ab_ns mX11_init 16 10 [.null, .int 0, .null, .int 0, .int 0, .int 0] := ⟨_, _, _, tyX9, rfl, zf_X9, tyX9_ok, tw_77, tw_227, tw_36, fun G j hj => by
  obtain rfl | rfl | rfl | rfl | rfl | rfl : j = 0 ∨ j = 1 ∨ j = 2 ∨ j = 3 ∨ j = 4 ∨ j = 5 := by omega
  all_goals rfl⟩
theorem ns_X11_init_42 : ab_ns mX11_init 42 9 [.int 0] := ⟨_, _, _, tyX8, rfl, zf_X8, tyX8_ok, tw_103, tw_104, tw_24, fun G j hj => by
  obtain rfl : j = 0 := by omega
  all_goals rfl⟩
theorem ns_X11_init_51 : ab_ns mX11_init 51 3 [.int 0] := ⟨_, _, _, tyX2, rfl, zf_X2, tyX2_ok, tw_171, tw_172, tw_29, fun G j hj => by
  obtain rfl : j = 0 := by omega
  all_goals rfl⟩
theorem ns_X11_init_54 : ab_ns mX11_init 54 2 [.int 0] := ⟨_, _, _, tyX1, rfl, zf_X1, tyX1_ok, tw_179, tw_180, tw_30, fun G j hj => by
  obtain rfl : j = 0 := by omega
  all_goals rfl⟩
theorem ns_X11_init_57 : ab_ns mX11_init 57 4 [.int 0] := ⟨_, _, _, tyX3, rfl, zf_X3, tyX3_ok, tw_187, tw_188, tw_31, fun G j hj => by
  obtain rfl : j = 0 := by omega
  all_goals rfl⟩
theorem ns_X11_init_60 : ab_ns mX11_init 60 6 [.int 0] := ⟨_, _, _, tyX5, rfl, zf_X5, tyX5_ok, tw_195, tw_196, tw_32, fun G j hj => by
  obtain rfl : j = 0 := by omega
  all_goals rfl⟩
theorem ns_X11_init_63 : ab_ns mX11_init 63 1 [.int 0] := ⟨_, _, _, tyX0, rfl, zf_X0, tyX0_ok, tw_203, tw_204, tw_33, fun G j hj => by
  obtain rfl : j = 0 := by omega
  all_goals rfl⟩
theorem ns_X11_init_66 : ab_ns mX11_init 66 5 [.int 0] := ⟨_, _, _, tyX4, rfl, zf_X4, tyX4_ok, tw_211, tw_212, tw_34, fun G j hj => by
  obtain rfl : j = 0 := by omega
  all_goals rfl⟩
theorem ns_X11_init_69 : ab_ns mX11_init 69 7 [.int 0] := ⟨_, _, _, tyX6, rfl, zf_X6, tyX6_ok, tw_219, tw_220, tw_35, fun G j hj => by
  obtain rfl : j = 0 := by omega
  all_goals rfl⟩
theorem i_X9 {G : ab_G} (hG : ab_GG G) {h : List ab_E} {b k : Nat} (hb : h[b]? = some (iS .null .null)) : ab_CM G mX9_init [.ref b, .ref k] h none (((h ++ [iN]).set b (iS (.ref h.length) .null)).set b (iS (.ref h.length) (.ref k))) := by
  have hb2 : (h ++ [iN])[b]? = some (iS .null .null) := ga_o hb
  have hb3 : ((h ++ [iN]).set b (iS (.ref h.length) .null))[b]? = some (iS (.ref h.length) .null) := gs_s hb2
  have e1 : h.length ≤ (((h ++ [iN]).set b (iS (.ref h.length) .null)).set b (iS (.ref h.length) (.ref k))).length := by simp
  have e2 : ab_sz h ≤ ab_sz (((h ++ [iN]).set b (iS (.ref h.length) .null)).set b (iS (.ref h.length) (.ref k))) := by
    have z1 : ab_sz h ≤ ab_sz ((h ++ [iN]).set b (iS (.ref h.length) .null)) := Nat.le_trans gz_a (gz_s hb2 rfl)
    exact Nat.le_trans z1 (gz_s hb3 rfl)
  refine ab_meth (l0 := [(0, .ref b), (1, .ref k)]) hG (by decide +kernel) rfl (Nat.le_of_ble_eq_true rfl) e1 e2 (fun X hX hF => ?_)
  refine ab_aload_n hX dX9_init_0 mm0 ?_
  refine ab_objInit hX dX9_init_1 so_X9_init_3 (by decide) (Nat.le_of_ble_eq_true rfl) ?_
  refine ab_aload_n hX dX9_init_4 mm0 ?_
  refine ab_bipush (v := 100) hX dX9_init_5 (by decide) ?_
  refine ab_newint (N := 100) hX dX9_init_7 tw_102 (by decide) rfl (by decide) ?_
  refine ab_putfield hX dX9_init_9 ps_X9_init_9_10 hb2 (Nat.le_of_ble_eq_true rfl) rfl rfl rfl ?_
  refine ab_aload_n hX dX9_init_12 mm0 ?_
  refine ab_aload_n hX dX9_init_13 mm1 ?_
  refine ab_putfield hX dX9_init_14 ps_X9_init_15_10 hb3 (Nat.le_of_ble_eq_true rfl) rfl rfl rfl ?_
  exact ab_vreturn hX hF dX9_init_17 rfl rfl rfl
def tH1 (h : List ab_E) (b : Nat) : List ab_E := (h ++ [iA]).set b (iT (.ref h.length) .null .null)
def tH2 (h : List ab_E) (b : Nat) : List ab_E := (tH1 h b ++ [iA]).set b (iT (.ref h.length) (.ref (tH1 h b).length) .null)
def tH3 (h : List ab_E) (b : Nat) : List ab_E := (tH2 h b ++ [iK]).set b (iT (.ref h.length) (.ref (tH1 h b).length) (.ref (tH2 h b).length))
theorem i_X10 {G : ab_G} (hG : ab_GG G) {h : List ab_E} {b : Nat} (hb : h[b]? = some (iT .null .null .null)) : ab_CM G mX10_init [.ref b] h none (tH3 h b) := by
  have g1 : (h ++ [iA])[b]? = some (iT .null .null .null) := ga_o hb
  have g1' : (tH1 h b)[b]? = some (iT (.ref h.length) .null .null) := gs_s g1
  have g2 : (tH1 h b ++ [iA])[b]? = some (iT (.ref h.length) .null .null) := ga_o g1'
  have g2' : (tH2 h b)[b]? = some (iT (.ref h.length) (.ref (tH1 h b).length) .null) := gs_s g2
  have g3 : (tH2 h b ++ [iK])[b]? = some (iT (.ref h.length) (.ref (tH1 h b).length) .null) := ga_o g2'
  have e1 : h.length ≤ (tH3 h b).length := by
    simp only [tH3, tH2, tH1, List.length_set, List.length_append, List.length_cons, List.length_nil]
    omega
  have e2 : ab_sz h ≤ ab_sz (tH3 h b) := by
    have z1 : ab_sz h ≤ ab_sz (tH1 h b) := Nat.le_trans gz_a (gz_s g1 rfl)
    have z2 : ab_sz (tH1 h b) ≤ ab_sz (tH2 h b) := Nat.le_trans gz_a (gz_s g2 rfl)
    have z3 : ab_sz (tH2 h b) ≤ ab_sz (tH3 h b) := Nat.le_trans gz_a (gz_s g3 rfl)
    omega
  refine ab_meth (l0 := [(0, .ref b)]) hG (by decide +kernel) rfl (Nat.le_of_ble_eq_true rfl) e1 e2 (fun X hX hF => ?_)
  refine ab_aload_n hX dX10_init_0 mm0 ?_
  refine ab_objInit hX dX10_init_1 so_X10_init_3 (by decide) (Nat.le_of_ble_eq_true rfl) ?_
  refine ab_aload_n hX dX10_init_4 mm0 ?_
  refine ab_new hX dX10_init_5 ns_X10_init_9 ?_
  refine ab_dup hX dX10_init_8 rfl ?_
  refine ab_callI0 hX dX10_init_9 ss_X10_init_11 (al_init hG ga_n) (Nat.le_of_ble_eq_true rfl) ?_
  rw [set_new]
  refine ab_putfield (h1 := tH1 h b) hX dX10_init_12 ps_X10_init_12_11 g1 (Nat.le_of_ble_eq_true rfl) rfl rfl rfl ?_
  refine ab_aload_n hX dX10_init_15 mm0 ?_
  refine ab_new hX dX10_init_16 ns_X10_init_9 ?_
  refine ab_dup hX dX10_init_19 rfl ?_
  refine ab_callI0 hX dX10_init_20 ss_X10_init_11 (al_init hG ga_n) (Nat.le_of_ble_eq_true rfl) ?_
  rw [set_new]
  refine ab_putfield (h1 := tH2 h b) hX dX10_init_23 ps_X10_init_18_11 g2 (Nat.le_of_ble_eq_true rfl) rfl rfl rfl ?_
  refine ab_aload_n hX dX10_init_26 mm0 ?_
  refine ab_iconst (v := 5) hX dX10_init_27 (by decide) ?_
  refine ab_newint (N := 5) hX dX10_init_28 tw_102 (by decide) rfl (by decide) ?_
  refine ab_putfield (h1 := tH3 h b) hX dX10_init_30 ps_X10_init_21_11 g3 (Nat.le_of_ble_eq_true rfl) rfl rfl rfl ?_
  exact ab_vreturn hX hF dX10_init_33 rfl rfl rfl
def cz : CS := (fun _ => 0, fun _ _ => 0, fun _ _ => 0, fun k => if k < 10 then .float 0 else .ref 17)
set_option maxHeartbeats 4000000 in
theorem i_X11 {G : ab_G} (hG : ab_GG G) : ab_CM G mX11_init [.ref 0] [iX .null .null .null .null .null .null .null] none (cC cz) := by
  refine ab_meth (l0 := [(0, .ref 0)]) hG (by decide +kernel) rfl (Nat.le_of_ble_eq_true rfl) (Nat.le_of_ble_eq_true rfl) (Nat.le_of_ble_eq_true rfl) (fun X hX hF => ?_)
  refine ab_aload_n hX dX11_init_0 mm0 ?_
  refine ab_objInit hX dX11_init_1 so_X11_init_3 (by decide) (Nat.le_of_ble_eq_true rfl) ?_
  refine ab_aload_n hX dX11_init_4 mm0 ?_
  refine ab_new hX dX11_init_5 ns_X11_init_9 ?_
  refine ab_dup hX dX11_init_8 rfl ?_
  refine ab_callI0 hX dX11_init_9 ss_X11_init_11 (al_init hG ga_n) (Nat.le_of_ble_eq_true rfl) ?_
  rw [set_new]
  show ab_WA G mX11_init X _ [(0, .ref 0)] [.ref 1, .ref 0] [iX .null .null .null .null .null .null .null, iA]
  refine ab_putfield (h1 := [iX (.ref 1) .null .null .null .null .null .null, iA]) hX dX11_init_12 ps_X11_init_12_12 rfl (Nat.le_of_ble_eq_true rfl) rfl rfl rfl ?_
  refine ab_aload_n hX dX11_init_15 mm0 ?_
  refine ab_bipush (v := 8) hX dX11_init_16 (by decide) ?_
  refine ab_anew (N := 8) hX dX11_init_18 (Or.inr ⟨rfl, rfl⟩) tw_77 tw_78 (by decide) rfl (by decide) ?_
  rw [← shF_0]
  show ab_WA G mX11_init X _ [(0, .ref 0)] [.ref 2, .ref 0] [iX (.ref 1) .null .null .null .null .null .null, iA, iSA 0]
  refine ab_putfield (h1 := [iX (.ref 1) (.ref 2) .null .null .null .null .null, iA, iSA 0]) hX dX11_init_21 ps_X11_init_18_12 rfl (Nat.le_of_ble_eq_true rfl) rfl rfl rfl ?_
  refine ab_aload_n hX dX11_init_24 mm0 ?_
  refine ab_new hX dX11_init_25 ns_X11_init_22 ?_
  refine ab_dup hX dX11_init_28 rfl ?_
  refine ab_callI0 hX dX11_init_29 ss_X11_init_24 (i_X10 hG ga_n) (Nat.le_of_ble_eq_true rfl) ?_
  show ab_WA G mX11_init X _ [(0, .ref 0)] [.ref 3, .ref 0] [iX (.ref 1) (.ref 2) .null .null .null .null .null, iA, iSA 0, iT (.ref 4) (.ref 5) (.ref 6), iA, iA, iK]
  refine ab_putfield (h1 := [iX (.ref 1) (.ref 2) (.ref 3) .null .null .null .null, iA, iSA 0, iT (.ref 4) (.ref 5) (.ref 6), iA, iA, iK]) hX dX11_init_32 ps_X11_init_25_12 rfl (Nat.le_of_ble_eq_true rfl) rfl rfl rfl ?_
  refine ab_aload_n hX dX11_init_35 mm0 ?_
  refine ab_new hX dX11_init_36 ns_X11_init_22 ?_
  refine ab_dup hX dX11_init_39 rfl ?_
  refine ab_callI0 hX dX11_init_40 ss_X11_init_24 (i_X10 hG ga_n) (Nat.le_of_ble_eq_true rfl) ?_
  show ab_WA G mX11_init X _ [(0, .ref 0)] [.ref 7, .ref 0] [iX (.ref 1) (.ref 2) (.ref 3) .null .null .null .null, iA, iSA 0, iT (.ref 4) (.ref 5) (.ref 6), iA, iA, iK, iT (.ref 8) (.ref 9) (.ref 10), iA, iA, iK]
  refine ab_putfield (h1 := [iX (.ref 1) (.ref 2) (.ref 3) (.ref 7) .null .null .null, iA, iSA 0, iT (.ref 4) (.ref 5) (.ref 6), iA, iA, iK, iT (.ref 8) (.ref 9) (.ref 10), iA, iA, iK]) hX dX11_init_43 ps_X11_init_29_12 rfl (Nat.le_of_ble_eq_true rfl) rfl rfl rfl ?_
  refine ab_aload_n hX dX11_init_46 mm0 ?_
  refine ab_new hX dX11_init_47 ns_X11_init_22 ?_
  refine ab_dup hX dX11_init_50 rfl ?_
  refine ab_callI0 hX dX11_init_51 ss_X11_init_24 (i_X10 hG ga_n) (Nat.le_of_ble_eq_true rfl) ?_
  show ab_WA G mX11_init X _ [(0, .ref 0)] [.ref 11, .ref 0] [iX (.ref 1) (.ref 2) (.ref 3) (.ref 7) .null .null .null, iA, iSA 0, iT (.ref 4) (.ref 5) (.ref 6), iA, iA, iK, iT (.ref 8) (.ref 9) (.ref 10), iA, iA, iK, iT (.ref 12) (.ref 13) (.ref 14), iA, iA, iK]
  refine ab_putfield (h1 := [iX (.ref 1) (.ref 2) (.ref 3) (.ref 7) (.ref 11) .null .null, iA, iSA 0, iT (.ref 4) (.ref 5) (.ref 6), iA, iA, iK, iT (.ref 8) (.ref 9) (.ref 10), iA, iA, iK, iT (.ref 12) (.ref 13) (.ref 14), iA, iA, iK]) hX dX11_init_54 ps_X11_init_32_12 rfl (Nat.le_of_ble_eq_true rfl) rfl rfl rfl ?_
  refine ab_aload_n hX dX11_init_57 mm0 ?_
  refine ab_sipush (v := 288) hX dX11_init_58 (by decide) ?_
  refine ab_newlong (N := 288) hX dX11_init_61 tw_113 (by decide) rfl (by decide) ?_
  show ab_WA G mX11_init X _ [(0, .ref 0)] [.ref 15, .ref 0] [iX (.ref 1) (.ref 2) (.ref 3) (.ref 7) (.ref 11) .null .null, iA, iSA 0, iT (.ref 4) (.ref 5) (.ref 6), iA, iA, iK, iT (.ref 8) (.ref 9) (.ref 10), iA, iA, iK, iT (.ref 12) (.ref 13) (.ref 14), iA, iA, iK, iL]
  refine ab_putfield (h1 := [iX (.ref 1) (.ref 2) (.ref 3) (.ref 7) (.ref 11) (.ref 15) .null, iA, iSA 0, iT (.ref 4) (.ref 5) (.ref 6), iA, iA, iK, iT (.ref 8) (.ref 9) (.ref 10), iA, iA, iK, iT (.ref 12) (.ref 13) (.ref 14), iA, iA, iK, iL]) hX dX11_init_63 ps_X11_init_35_12 rfl (Nat.le_of_ble_eq_true rfl) rfl rfl rfl ?_
  refine ab_aload_n hX dX11_init_66 mm0 ?_
  refine ab_sipush (v := 288) hX dX11_init_67 (by decide) ?_
  refine ab_newlong (N := 288) hX dX11_init_70 tw_113 (by decide) rfl (by decide) ?_
  show ab_WA G mX11_init X _ [(0, .ref 0)] [.ref 16, .ref 0] [iX (.ref 1) (.ref 2) (.ref 3) (.ref 7) (.ref 11) (.ref 15) .null, iA, iSA 0, iT (.ref 4) (.ref 5) (.ref 6), iA, iA, iK, iT (.ref 8) (.ref 9) (.ref 10), iA, iA, iK, iT (.ref 12) (.ref 13) (.ref 14), iA, iA, iK, iL, iL]
  refine ab_putfield (h1 := [iX (.ref 1) (.ref 2) (.ref 3) (.ref 7) (.ref 11) (.ref 15) (.ref 16), iA, iSA 0, iT (.ref 4) (.ref 5) (.ref 6), iA, iA, iK, iT (.ref 8) (.ref 9) (.ref 10), iA, iA, iK, iT (.ref 12) (.ref 13) (.ref 14), iA, iA, iK, iL, iL]) hX dX11_init_72 ps_X11_init_39_12 rfl (Nat.le_of_ble_eq_true rfl) rfl rfl rfl ?_
  refine ab_new hX dX11_init_75 ns_X11_init_42 ?_
  refine ab_dup hX dX11_init_78 rfl ?_
  refine ab_iconst (v := 0) hX dX11_init_79 (by decide) ?_
  show ab_WA G mX11_init X _ [(0, .ref 0)] [.int 0, .ref 17, .ref 17] [iX (.ref 1) (.ref 2) (.ref 3) (.ref 7) (.ref 11) (.ref 15) (.ref 16), iA, iSA 0, iT (.ref 4) (.ref 5) (.ref 6), iA, iA, iK, iT (.ref 8) (.ref 9) (.ref 10), iA, iA, iK, iT (.ref 12) (.ref 13) (.ref 14), iA, iA, iK, iL, iL, iQ 9 0]
  refine ab_callI1 hX dX11_init_80 ss_X11_init_44 (i_X8 hG ps_X8_init_9_9 (show [iX (.ref 1) (.ref 2) (.ref 3) (.ref 7) (.ref 11) (.ref 15) (.ref 16), iA, iSA 0, iT (.ref 4) (.ref 5) (.ref 6), iA, iA, iK, iT (.ref 8) (.ref 9) (.ref 10), iA, iA, iK, iT (.ref 12) (.ref 13) (.ref 14), iA, iA, iK, iL, iL, iQ 9 0][17]? = some _ from rfl)) (Nat.le_of_ble_eq_true rfl) ?_
  show ab_WA G mX11_init X _ [(0, .ref 0)] [.ref 17] [iX (.ref 1) (.ref 2) (.ref 3) (.ref 7) (.ref 11) (.ref 15) (.ref 16), iA, iSA 0, iT (.ref 4) (.ref 5) (.ref 6), iA, iA, iK, iT (.ref 8) (.ref 9) (.ref 10), iA, iA, iK, iT (.ref 12) (.ref 13) (.ref 14), iA, iA, iK, iL, iL, iQ 9 0]
  refine ab_astore_n hX dX11_init_83 rfl (by decide) rfl ?_
  refine ab_aload_n hX dX11_init_84 mm1 ?_
  refine ab_getfield (v := .ref 1) hX dX11_init_85 (fs_X11_12_12 rfl) (show [iX (.ref 1) (.ref 2) (.ref 3) (.ref 7) (.ref 11) (.ref 15) (.ref 16), iA, iSA 0, iT (.ref 4) (.ref 5) (.ref 6), iA, iA, iK, iT (.ref 8) (.ref 9) (.ref 10), iA, iA, iK, iT (.ref 12) (.ref 13) (.ref 14), iA, iA, iK, iL, iL, iQ 9 0][0]? = some _ from rfl) rfl ?_
  refine ab_aload_n hX dX11_init_88 mm0 ?_
  refine ab_callV1r hX dX11_init_89 (show [iX (.ref 1) (.ref 2) (.ref 3) (.ref 7) (.ref 11) (.ref 15) (.ref 16), iA, iSA 0, iT (.ref 4) (.ref 5) (.ref 6), iA, iA, iK, iT (.ref 8) (.ref 9) (.ref 10), iA, iA, iK, iT (.ref 12) (.ref 13) (.ref 14), iA, iA, iK, iL, iL, iQ 9 0][1]? = some _ from rfl) ss_X11_init_47 (al_add0 hG (show [iX (.ref 1) (.ref 2) (.ref 3) (.ref 7) (.ref 11) (.ref 15) (.ref 16), iA, iSA 0, iT (.ref 4) (.ref 5) (.ref 6), iA, iA, iK, iT (.ref 8) (.ref 9) (.ref 10), iA, iA, iK, iT (.ref 12) (.ref 13) (.ref 14), iA, iA, iK, iL, iL, iQ 9 0][1]? = some _ from rfl) (show [iX (.ref 1) (.ref 2) (.ref 3) (.ref 7) (.ref 11) (.ref 15) (.ref 16), iA, iSA 0, iT (.ref 4) (.ref 5) (.ref 6), iA, iA, iK, iT (.ref 8) (.ref 9) (.ref 10), iA, iA, iK, iT (.ref 12) (.ref 13) (.ref 14), iA, iA, iK, iL, iL, iQ 9 0][17]? = some _ from rfl) rfl tw_941 (by decide)) (Nat.le_of_ble_eq_true rfl) ?_
  rw [up_ki0]
  show ab_WA G mX11_init X _ [(1, .ref 17), (0, .ref 0)] [.int 1] [iX (.ref 1) (.ref 2) (.ref 3) (.ref 7) (.ref 11) (.ref 15) (.ref 16), iC 1 (.ref 18), iSA 0, iT (.ref 4) (.ref 5) (.ref 6), iA, iA, iK, iT (.ref 8) (.ref 9) (.ref 10), iA, iA, iK, iT (.ref 12) (.ref 13) (.ref 14), iA, iA, iK, iL, iL, iQ 9 0, iKA 1]
  refine ab_pop hX dX11_init_92 rfl ?_
  refine ab_aload_n hX dX11_init_93 mm1 ?_
  refine ab_getfield (v := .ref 1) hX dX11_init_94 (fs_X11_12_12 rfl) (show [iX (.ref 1) (.ref 2) (.ref 3) (.ref 7) (.ref 11) (.ref 15) (.ref 16), iC 1 (.ref 18), iSA 0, iT (.ref 4) (.ref 5) (.ref 6), iA, iA, iK, iT (.ref 8) (.ref 9) (.ref 10), iA, iA, iK, iT (.ref 12) (.ref 13) (.ref 14), iA, iA, iK, iL, iL, iQ 9 0, iKA 1][0]? = some _ from rfl) rfl ?_
  refine ab_new hX dX11_init_97 ns_X11_init_51 ?_
  refine ab_dup hX dX11_init_100 rfl ?_
  refine ab_iconst (v := 1) hX dX11_init_101 (by decide) ?_
  show ab_WA G mX11_init X _ [(1, .ref 17), (0, .ref 0)] [.int 1, .ref 19, .ref 19, .ref 1] [iX (.ref 1) (.ref 2) (.ref 3) (.ref 7) (.ref 11) (.ref 15) (.ref 16), iC 1 (.ref 18), iSA 0, iT (.ref 4) (.ref 5) (.ref 6), iA, iA, iK, iT (.ref 8) (.ref 9) (.ref 10), iA, iA, iK, iT (.ref 12) (.ref 13) (.ref 14), iA, iA, iK, iL, iL, iQ 9 0, iKA 1, iQ 3 0]
  refine ab_callI1 hX dX11_init_102 ss_X11_init_53 (i_X2 hG ps_X8_init_9_3 (show [iX (.ref 1) (.ref 2) (.ref 3) (.ref 7) (.ref 11) (.ref 15) (.ref 16), iC 1 (.ref 18), iSA 0, iT (.ref 4) (.ref 5) (.ref 6), iA, iA, iK, iT (.ref 8) (.ref 9) (.ref 10), iA, iA, iK, iT (.ref 12) (.ref 13) (.ref 14), iA, iA, iK, iL, iL, iQ 9 0, iKA 1, iQ 3 0][19]? = some _ from rfl)) (Nat.le_of_ble_eq_true rfl) ?_
  show ab_WA G mX11_init X _ [(1, .ref 17), (0, .ref 0)] [.ref 19, .ref 1] [iX (.ref 1) (.ref 2) (.ref 3) (.ref 7) (.ref 11) (.ref 15) (.ref 16), iC 1 (.ref 18), iSA 0, iT (.ref 4) (.ref 5) (.ref 6), iA, iA, iK, iT (.ref 8) (.ref 9) (.ref 10), iA, iA, iK, iT (.ref 12) (.ref 13) (.ref 14), iA, iA, iK, iL, iL, iQ 9 0, iKA 1, iQ 3 1]
  refine ab_callV1r hX dX11_init_105 (show [iX (.ref 1) (.ref 2) (.ref 3) (.ref 7) (.ref 11) (.ref 15) (.ref 16), iC 1 (.ref 18), iSA 0, iT (.ref 4) (.ref 5) (.ref 6), iA, iA, iK, iT (.ref 8) (.ref 9) (.ref 10), iA, iA, iK, iT (.ref 12) (.ref 13) (.ref 14), iA, iA, iK, iL, iL, iQ 9 0, iKA 1, iQ 3 1][1]? = some _ from rfl) ss_X11_init_47 (al_add (f := kiF 1) (n := 1) hG (show [iX (.ref 1) (.ref 2) (.ref 3) (.ref 7) (.ref 11) (.ref 15) (.ref 16), iC 1 (.ref 18), iSA 0, iT (.ref 4) (.ref 5) (.ref 6), iA, iA, iK, iT (.ref 8) (.ref 9) (.ref 10), iA, iA, iK, iT (.ref 12) (.ref 13) (.ref 14), iA, iA, iK, iL, iL, iQ 9 0, iKA 1, iQ 3 1][1]? = some _ from rfl) (show [iX (.ref 1) (.ref 2) (.ref 3) (.ref 7) (.ref 11) (.ref 15) (.ref 16), iC 1 (.ref 18), iSA 0, iT (.ref 4) (.ref 5) (.ref 6), iA, iA, iK, iT (.ref 8) (.ref 9) (.ref 10), iA, iA, iK, iT (.ref 12) (.ref 13) (.ref 14), iA, iA, iK, iL, iL, iQ 9 0, iKA 1, iQ 3 1][18]? = some _ from rfl) (by decide) (show [iX (.ref 1) (.ref 2) (.ref 3) (.ref 7) (.ref 11) (.ref 15) (.ref 16), iC 1 (.ref 18), iSA 0, iT (.ref 4) (.ref 5) (.ref 6), iA, iA, iK, iT (.ref 8) (.ref 9) (.ref 10), iA, iA, iK, iT (.ref 12) (.ref 13) (.ref 14), iA, iA, iK, iL, iL, iQ 9 0, iKA 1, iQ 3 1][19]? = some _ from rfl) rfl tw_942 (by decide) (by decide)) (Nat.le_of_ble_eq_true rfl) ?_
  rw [up_ki (n := 1) (r := 19) rfl]
  show ab_WA G mX11_init X _ [(1, .ref 17), (0, .ref 0)] [.int 1] [iX (.ref 1) (.ref 2) (.ref 3) (.ref 7) (.ref 11) (.ref 15) (.ref 16), iC 2 (.ref 18), iSA 0, iT (.ref 4) (.ref 5) (.ref 6), iA, iA, iK, iT (.ref 8) (.ref 9) (.ref 10), iA, iA, iK, iT (.ref 12) (.ref 13) (.ref 14), iA, iA, iK, iL, iL, iQ 9 0, iKA 2, iQ 3 1]
  refine ab_pop hX dX11_init_108 rfl ?_
  refine ab_aload_n hX dX11_init_109 mm1 ?_
  refine ab_getfield (v := .ref 1) hX dX11_init_110 (fs_X11_12_12 rfl) (show [iX (.ref 1) (.ref 2) (.ref 3) (.ref 7) (.ref 11) (.ref 15) (.ref 16), iC 2 (.ref 18), iSA 0, iT (.ref 4) (.ref 5) (.ref 6), iA, iA, iK, iT (.ref 8) (.ref 9) (.ref 10), iA, iA, iK, iT (.ref 12) (.ref 13) (.ref 14), iA, iA, iK, iL, iL, iQ 9 0, iKA 2, iQ 3 1][0]? = some _ from rfl) rfl ?_
  refine ab_new hX dX11_init_113 ns_X11_init_54 ?_
  refine ab_dup hX dX11_init_116 rfl ?_
  refine ab_iconst (v := 2) hX dX11_init_117 (by decide) ?_
  show ab_WA G mX11_init X _ [(1, .ref 17), (0, .ref 0)] [.int 2, .ref 20, .ref 20, .ref 1] [iX (.ref 1) (.ref 2) (.ref 3) (.ref 7) (.ref 11) (.ref 15) (.ref 16), iC 2 (.ref 18), iSA 0, iT (.ref 4) (.ref 5) (.ref 6), iA, iA, iK, iT (.ref 8) (.ref 9) (.ref 10), iA, iA, iK, iT (.ref 12) (.ref 13) (.ref 14), iA, iA, iK, iL, iL, iQ 9 0, iKA 2, iQ 3 1, iQ 2 0]
  refine ab_callI1 hX dX11_init_118 ss_X11_init_56 (i_X1 hG ps_X8_init_9_2 (show [iX (.ref 1) (.ref 2) (.ref 3) (.ref 7) (.ref 11) (.ref 15) (.ref 16), iC 2 (.ref 18), iSA 0, iT (.ref 4) (.ref 5) (.ref 6), iA, iA, iK, iT (.ref 8) (.ref 9) (.ref 10), iA, iA, iK, iT (.ref 12) (.ref 13) (.ref 14), iA, iA, iK, iL, iL, iQ 9 0, iKA 2, iQ 3 1, iQ 2 0][20]? = some _ from rfl)) (Nat.le_of_ble_eq_true rfl) ?_
  show ab_WA G mX11_init X _ [(1, .ref 17), (0, .ref 0)] [.ref 20, .ref 1] [iX (.ref 1) (.ref 2) (.ref 3) (.ref 7) (.ref 11) (.ref 15) (.ref 16), iC 2 (.ref 18), iSA 0, iT (.ref 4) (.ref 5) (.ref 6), iA, iA, iK, iT (.ref 8) (.ref 9) (.ref 10), iA, iA, iK, iT (.ref 12) (.ref 13) (.ref 14), iA, iA, iK, iL, iL, iQ 9 0, iKA 2, iQ 3 1, iQ 2 2]
  refine ab_callV1r hX dX11_init_121 (show [iX (.ref 1) (.ref 2) (.ref 3) (.ref 7) (.ref 11) (.ref 15) (.ref 16), iC 2 (.ref 18), iSA 0, iT (.ref 4) (.ref 5) (.ref 6), iA, iA, iK, iT (.ref 8) (.ref 9) (.ref 10), iA, iA, iK, iT (.ref 12) (.ref 13) (.ref 14), iA, iA, iK, iL, iL, iQ 9 0, iKA 2, iQ 3 1, iQ 2 2][1]? = some _ from rfl) ss_X11_init_47 (al_add (f := kiF 2) (n := 2) hG (show [iX (.ref 1) (.ref 2) (.ref 3) (.ref 7) (.ref 11) (.ref 15) (.ref 16), iC 2 (.ref 18), iSA 0, iT (.ref 4) (.ref 5) (.ref 6), iA, iA, iK, iT (.ref 8) (.ref 9) (.ref 10), iA, iA, iK, iT (.ref 12) (.ref 13) (.ref 14), iA, iA, iK, iL, iL, iQ 9 0, iKA 2, iQ 3 1, iQ 2 2][1]? = some _ from rfl) (show [iX (.ref 1) (.ref 2) (.ref 3) (.ref 7) (.ref 11) (.ref 15) (.ref 16), iC 2 (.ref 18), iSA 0, iT (.ref 4) (.ref 5) (.ref 6), iA, iA, iK, iT (.ref 8) (.ref 9) (.ref 10), iA, iA, iK, iT (.ref 12) (.ref 13) (.ref 14), iA, iA, iK, iL, iL, iQ 9 0, iKA 2, iQ 3 1, iQ 2 2][18]? = some _ from rfl) (by decide) (show [iX (.ref 1) (.ref 2) (.ref 3) (.ref 7) (.ref 11) (.ref 15) (.ref 16), iC 2 (.ref 18), iSA 0, iT (.ref 4) (.ref 5) (.ref 6), iA, iA, iK, iT (.ref 8) (.ref 9) (.ref 10), iA, iA, iK, iT (.ref 12) (.ref 13) (.ref 14), iA, iA, iK, iL, iL, iQ 9 0, iKA 2, iQ 3 1, iQ 2 2][20]? = some _ from rfl) rfl tw_943 (by decide) (by decide)) (Nat.le_of_ble_eq_true rfl) ?_
  rw [up_ki (n := 2) (r := 20) rfl]
  show ab_WA G mX11_init X _ [(1, .ref 17), (0, .ref 0)] [.int 1] [iX (.ref 1) (.ref 2) (.ref 3) (.ref 7) (.ref 11) (.ref 15) (.ref 16), iC 3 (.ref 18), iSA 0, iT (.ref 4) (.ref 5) (.ref 6), iA, iA, iK, iT (.ref 8) (.ref 9) (.ref 10), iA, iA, iK, iT (.ref 12) (.ref 13) (.ref 14), iA, iA, iK, iL, iL, iQ 9 0, iKA 3, iQ 3 1, iQ 2 2]
  refine ab_pop hX dX11_init_124 rfl ?_
  refine ab_aload_n hX dX11_init_125 mm1 ?_
  refine ab_getfield (v := .ref 1) hX dX11_init_126 (fs_X11_12_12 rfl) (show [iX (.ref 1) (.ref 2) (.ref 3) (.ref 7) (.ref 11) (.ref 15) (.ref 16), iC 3 (.ref 18), iSA 0, iT (.ref 4) (.ref 5) (.ref 6), iA, iA, iK, iT (.ref 8) (.ref 9) (.ref 10), iA, iA, iK, iT (.ref 12) (.ref 13) (.ref 14), iA, iA, iK, iL, iL, iQ 9 0, iKA 3, iQ 3 1, iQ 2 2][0]? = some _ from rfl) rfl ?_
  refine ab_new hX dX11_init_129 ns_X11_init_57 ?_
  refine ab_dup hX dX11_init_132 rfl ?_
  refine ab_iconst (v := 3) hX dX11_init_133 (by decide) ?_
  show ab_WA G mX11_init X _ [(1, .ref 17), (0, .ref 0)] [.int 3, .ref 21, .ref 21, .ref 1] [iX (.ref 1) (.ref 2) (.ref 3) (.ref 7) (.ref 11) (.ref 15) (.ref 16), iC 3 (.ref 18), iSA 0, iT (.ref 4) (.ref 5) (.ref 6), iA, iA, iK, iT (.ref 8) (.ref 9) (.ref 10), iA, iA, iK, iT (.ref 12) (.ref 13) (.ref 14), iA, iA, iK, iL, iL, iQ 9 0, iKA 3, iQ 3 1, iQ 2 2, iQ 4 0]
  refine ab_callI1 hX dX11_init_134 ss_X11_init_59 (i_X3 hG ps_X8_init_9_4 (show [iX (.ref 1) (.ref 2) (.ref 3) (.ref 7) (.ref 11) (.ref 15) (.ref 16), iC 3 (.ref 18), iSA 0, iT (.ref 4) (.ref 5) (.ref 6), iA, iA, iK, iT (.ref 8) (.ref 9) (.ref 10), iA, iA, iK, iT (.ref 12) (.ref 13) (.ref 14), iA, iA, iK, iL, iL, iQ 9 0, iKA 3, iQ 3 1, iQ 2 2, iQ 4 0][21]? = some _ from rfl)) (Nat.le_of_ble_eq_true rfl) ?_
  show ab_WA G mX11_init X _ [(1, .ref 17), (0, .ref 0)] [.ref 21, .ref 1] [iX (.ref 1) (.ref 2) (.ref 3) (.ref 7) (.ref 11) (.ref 15) (.ref 16), iC 3 (.ref 18), iSA 0, iT (.ref 4) (.ref 5) (.ref 6), iA, iA, iK, iT (.ref 8) (.ref 9) (.ref 10), iA, iA, iK, iT (.ref 12) (.ref 13) (.ref 14), iA, iA, iK, iL, iL, iQ 9 0, iKA 3, iQ 3 1, iQ 2 2, iQ 4 3]
  refine ab_callV1r hX dX11_init_137 (show [iX (.ref 1) (.ref 2) (.ref 3) (.ref 7) (.ref 11) (.ref 15) (.ref 16), iC 3 (.ref 18), iSA 0, iT (.ref 4) (.ref 5) (.ref 6), iA, iA, iK, iT (.ref 8) (.ref 9) (.ref 10), iA, iA, iK, iT (.ref 12) (.ref 13) (.ref 14), iA, iA, iK, iL, iL, iQ 9 0, iKA 3, iQ 3 1, iQ 2 2, iQ 4 3][1]? = some _ from rfl) ss_X11_init_47 (al_add (f := kiF 3) (n := 3) hG (show [iX (.ref 1) (.ref 2) (.ref 3) (.ref 7) (.ref 11) (.ref 15) (.ref 16), iC 3 (.ref 18), iSA 0, iT (.ref 4) (.ref 5) (.ref 6), iA, iA, iK, iT (.ref 8) (.ref 9) (.ref 10), iA, iA, iK, iT (.ref 12) (.ref 13) (.ref 14), iA, iA, iK, iL, iL, iQ 9 0, iKA 3, iQ 3 1, iQ 2 2, iQ 4 3][1]? = some _ from rfl) (show [iX (.ref 1) (.ref 2) (.ref 3) (.ref 7) (.ref 11) (.ref 15) (.ref 16), iC 3 (.ref 18), iSA 0, iT (.ref 4) (.ref 5) (.ref 6), iA, iA, iK, iT (.ref 8) (.ref 9) (.ref 10), iA, iA, iK, iT (.ref 12) (.ref 13) (.ref 14), iA, iA, iK, iL, iL, iQ 9 0, iKA 3, iQ 3 1, iQ 2 2, iQ 4 3][18]? = some _ from rfl) (by decide) (show [iX (.ref 1) (.ref 2) (.ref 3) (.ref 7) (.ref 11) (.ref 15) (.ref 16), iC 3 (.ref 18), iSA 0, iT (.ref 4) (.ref 5) (.ref 6), iA, iA, iK, iT (.ref 8) (.ref 9) (.ref 10), iA, iA, iK, iT (.ref 12) (.ref 13) (.ref 14), iA, iA, iK, iL, iL, iQ 9 0, iKA 3, iQ 3 1, iQ 2 2, iQ 4 3][21]? = some _ from rfl) rfl tw_944 (by decide) (by decide)) (Nat.le_of_ble_eq_true rfl) ?_
  rw [up_ki (n := 3) (r := 21) rfl]
  show ab_WA G mX11_init X _ [(1, .ref 17), (0, .ref 0)] [.int 1] [iX (.ref 1) (.ref 2) (.ref 3) (.ref 7) (.ref 11) (.ref 15) (.ref 16), iC 4 (.ref 18), iSA 0, iT (.ref 4) (.ref 5) (.ref 6), iA, iA, iK, iT (.ref 8) (.ref 9) (.ref 10), iA, iA, iK, iT (.ref 12) (.ref 13) (.ref 14), iA, iA, iK, iL, iL, iQ 9 0, iKA 4, iQ 3 1, iQ 2 2, iQ 4 3]
  refine ab_pop hX dX11_init_140 rfl ?_
  refine ab_aload_n hX dX11_init_141 mm1 ?_
  refine ab_getfield (v := .ref 1) hX dX11_init_142 (fs_X11_12_12 rfl) (show [iX (.ref 1) (.ref 2) (.ref 3) (.ref 7) (.ref 11) (.ref 15) (.ref 16), iC 4 (.ref 18), iSA 0, iT (.ref 4) (.ref 5) (.ref 6), iA, iA, iK, iT (.ref 8) (.ref 9) (.ref 10), iA, iA, iK, iT (.ref 12) (.ref 13) (.ref 14), iA, iA, iK, iL, iL, iQ 9 0, iKA 4, iQ 3 1, iQ 2 2, iQ 4 3][0]? = some _ from rfl) rfl ?_
  refine ab_new hX dX11_init_145 ns_X11_init_60 ?_
  refine ab_dup hX dX11_init_148 rfl ?_
  refine ab_iconst (v := 4) hX dX11_init_149 (by decide) ?_
  show ab_WA G mX11_init X _ [(1, .ref 17), (0, .ref 0)] [.int 4, .ref 22, .ref 22, .ref 1] [iX (.ref 1) (.ref 2) (.ref 3) (.ref 7) (.ref 11) (.ref 15) (.ref 16), iC 4 (.ref 18), iSA 0, iT (.ref 4) (.ref 5) (.ref 6), iA, iA, iK, iT (.ref 8) (.ref 9) (.ref 10), iA, iA, iK, iT (.ref 12) (.ref 13) (.ref 14), iA, iA, iK, iL, iL, iQ 9 0, iKA 4, iQ 3 1, iQ 2 2, iQ 4 3, iQ 6 0]
  refine ab_callI1 hX dX11_init_150 ss_X11_init_62 (i_X5 hG ps_X8_init_9_6 (show [iX (.ref 1) (.ref 2) (.ref 3) (.ref 7) (.ref 11) (.ref 15) (.ref 16), iC 4 (.ref 18), iSA 0, iT (.ref 4) (.ref 5) (.ref 6), iA, iA, iK, iT (.ref 8) (.ref 9) (.ref 10), iA, iA, iK, iT (.ref 12) (.ref 13) (.ref 14), iA, iA, iK, iL, iL, iQ 9 0, iKA 4, iQ 3 1, iQ 2 2, iQ 4 3, iQ 6 0][22]? = some _ from rfl)) (Nat.le_of_ble_eq_true rfl) ?_
  show ab_WA G mX11_init X _ [(1, .ref 17), (0, .ref 0)] [.ref 22, .ref 1] [iX (.ref 1) (.ref 2) (.ref 3) (.ref 7) (.ref 11) (.ref 15) (.ref 16), iC 4 (.ref 18), iSA 0, iT (.ref 4) (.ref 5) (.ref 6), iA, iA, iK, iT (.ref 8) (.ref 9) (.ref 10), iA, iA, iK, iT (.ref 12) (.ref 13) (.ref 14), iA, iA, iK, iL, iL, iQ 9 0, iKA 4, iQ 3 1, iQ 2 2, iQ 4 3, iQ 6 4]
  refine ab_callV1r hX dX11_init_153 (show [iX (.ref 1) (.ref 2) (.ref 3) (.ref 7) (.ref 11) (.ref 15) (.ref 16), iC 4 (.ref 18), iSA 0, iT (.ref 4) (.ref 5) (.ref 6), iA, iA, iK, iT (.ref 8) (.ref 9) (.ref 10), iA, iA, iK, iT (.ref 12) (.ref 13) (.ref 14), iA, iA, iK, iL, iL, iQ 9 0, iKA 4, iQ 3 1, iQ 2 2, iQ 4 3, iQ 6 4][1]? = some _ from rfl) ss_X11_init_47 (al_add (f := kiF 4) (n := 4) hG (show [iX (.ref 1) (.ref 2) (.ref 3) (.ref 7) (.ref 11) (.ref 15) (.ref 16), iC 4 (.ref 18), iSA 0, iT (.ref 4) (.ref 5) (.ref 6), iA, iA, iK, iT (.ref 8) (.ref 9) (.ref 10), iA, iA, iK, iT (.ref 12) (.ref 13) (.ref 14), iA, iA, iK, iL, iL, iQ 9 0, iKA 4, iQ 3 1, iQ 2 2, iQ 4 3, iQ 6 4][1]? = some _ from rfl) (show [iX (.ref 1) (.ref 2) (.ref 3) (.ref 7) (.ref 11) (.ref 15) (.ref 16), iC 4 (.ref 18), iSA 0, iT (.ref 4) (.ref 5) (.ref 6), iA, iA, iK, iT (.ref 8) (.ref 9) (.ref 10), iA, iA, iK, iT (.ref 12) (.ref 13) (.ref 14), iA, iA, iK, iL, iL, iQ 9 0, iKA 4, iQ 3 1, iQ 2 2, iQ 4 3, iQ 6 4][18]? = some _ from rfl) (by decide) (show [iX (.ref 1) (.ref 2) (.ref 3) (.ref 7) (.ref 11) (.ref 15) (.ref 16), iC 4 (.ref 18), iSA 0, iT (.ref 4) (.ref 5) (.ref 6), iA, iA, iK, iT (.ref 8) (.ref 9) (.ref 10), iA, iA, iK, iT (.ref 12) (.ref 13) (.ref 14), iA, iA, iK, iL, iL, iQ 9 0, iKA 4, iQ 3 1, iQ 2 2, iQ 4 3, iQ 6 4][22]? = some _ from rfl) rfl tw_945 (by decide) (by decide)) (Nat.le_of_ble_eq_true rfl) ?_
  rw [up_ki (n := 4) (r := 22) rfl]
  show ab_WA G mX11_init X _ [(1, .ref 17), (0, .ref 0)] [.int 1] [iX (.ref 1) (.ref 2) (.ref 3) (.ref 7) (.ref 11) (.ref 15) (.ref 16), iC 5 (.ref 18), iSA 0, iT (.ref 4) (.ref 5) (.ref 6), iA, iA, iK, iT (.ref 8) (.ref 9) (.ref 10), iA, iA, iK, iT (.ref 12) (.ref 13) (.ref 14), iA, iA, iK, iL, iL, iQ 9 0, iKA 5, iQ 3 1, iQ 2 2, iQ 4 3, iQ 6 4]
  refine ab_pop hX dX11_init_156 rfl ?_
  refine ab_aload_n hX dX11_init_157 mm1 ?_
  refine ab_getfield (v := .ref 1) hX dX11_init_158 (fs_X11_12_12 rfl) (show [iX (.ref 1) (.ref 2) (.ref 3) (.ref 7) (.ref 11) (.ref 15) (.ref 16), iC 5 (.ref 18), iSA 0, iT (.ref 4) (.ref 5) (.ref 6), iA, iA, iK, iT (.ref 8) (.ref 9) (.ref 10), iA, iA, iK, iT (.ref 12) (.ref 13) (.ref 14), iA, iA, iK, iL, iL, iQ 9 0, iKA 5, iQ 3 1, iQ 2 2, iQ 4 3, iQ 6 4][0]? = some _ from rfl) rfl ?_
  refine ab_new hX dX11_init_161 ns_X11_init_63 ?_
  refine ab_dup hX dX11_init_164 rfl ?_
  refine ab_iconst (v := 5) hX dX11_init_165 (by decide) ?_
  show ab_WA G mX11_init X _ [(1, .ref 17), (0, .ref 0)] [.int 5, .ref 23, .ref 23, .ref 1] [iX (.ref 1) (.ref 2) (.ref 3) (.ref 7) (.ref 11) (.ref 15) (.ref 16), iC 5 (.ref 18), iSA 0, iT (.ref 4) (.ref 5) (.ref 6), iA, iA, iK, iT (.ref 8) (.ref 9) (.ref 10), iA, iA, iK, iT (.ref 12) (.ref 13) (.ref 14), iA, iA, iK, iL, iL, iQ 9 0, iKA 5, iQ 3 1, iQ 2 2, iQ 4 3, iQ 6 4, iQ 1 0]
  refine ab_callI1 hX dX11_init_166 ss_X11_init_65 (i_X0 hG ps_X8_init_9_1 (show [iX (.ref 1) (.ref 2) (.ref 3) (.ref 7) (.ref 11) (.ref 15) (.ref 16), iC 5 (.ref 18), iSA 0, iT (.ref 4) (.ref 5) (.ref 6), iA, iA, iK, iT (.ref 8) (.ref 9) (.ref 10), iA, iA, iK, iT (.ref 12) (.ref 13) (.ref 14), iA, iA, iK, iL, iL, iQ 9 0, iKA 5, iQ 3 1, iQ 2 2, iQ 4 3, iQ 6 4, iQ 1 0][23]? = some _ from rfl)) (Nat.le_of_ble_eq_true rfl) ?_
  show ab_WA G mX11_init X _ [(1, .ref 17), (0, .ref 0)] [.ref 23, .ref 1] [iX (.ref 1) (.ref 2) (.ref 3) (.ref 7) (.ref 11) (.ref 15) (.ref 16), iC 5 (.ref 18), iSA 0, iT (.ref 4) (.ref 5) (.ref 6), iA, iA, iK, iT (.ref 8) (.ref 9) (.ref 10), iA, iA, iK, iT (.ref 12) (.ref 13) (.ref 14), iA, iA, iK, iL, iL, iQ 9 0, iKA 5, iQ 3 1, iQ 2 2, iQ 4 3, iQ 6 4, iQ 1 5]
  refine ab_callV1r hX dX11_init_169 (show [iX (.ref 1) (.ref 2) (.ref 3) (.ref 7) (.ref 11) (.ref 15) (.ref 16), iC 5 (.ref 18), iSA 0, iT (.ref 4) (.ref 5) (.ref 6), iA, iA, iK, iT (.ref 8) (.ref 9) (.ref 10), iA, iA, iK, iT (.ref 12) (.ref 13) (.ref 14), iA, iA, iK, iL, iL, iQ 9 0, iKA 5, iQ 3 1, iQ 2 2, iQ 4 3, iQ 6 4, iQ 1 5][1]? = some _ from rfl) ss_X11_init_47 (al_add (f := kiF 5) (n := 5) hG (show [iX (.ref 1) (.ref 2) (.ref 3) (.ref 7) (.ref 11) (.ref 15) (.ref 16), iC 5 (.ref 18), iSA 0, iT (.ref 4) (.ref 5) (.ref 6), iA, iA, iK, iT (.ref 8) (.ref 9) (.ref 10), iA, iA, iK, iT (.ref 12) (.ref 13) (.ref 14), iA, iA, iK, iL, iL, iQ 9 0, iKA 5, iQ 3 1, iQ 2 2, iQ 4 3, iQ 6 4, iQ 1 5][1]? = some _ from rfl) (show [iX (.ref 1) (.ref 2) (.ref 3) (.ref 7) (.ref 11) (.ref 15) (.ref 16), iC 5 (.ref 18), iSA 0, iT (.ref 4) (.ref 5) (.ref 6), iA, iA, iK, iT (.ref 8) (.ref 9) (.ref 10), iA, iA, iK, iT (.ref 12) (.ref 13) (.ref 14), iA, iA, iK, iL, iL, iQ 9 0, iKA 5, iQ 3 1, iQ 2 2, iQ 4 3, iQ 6 4, iQ 1 5][18]? = some _ from rfl) (by decide) (show [iX (.ref 1) (.ref 2) (.ref 3) (.ref 7) (.ref 11) (.ref 15) (.ref 16), iC 5 (.ref 18), iSA 0, iT (.ref 4) (.ref 5) (.ref 6), iA, iA, iK, iT (.ref 8) (.ref 9) (.ref 10), iA, iA, iK, iT (.ref 12) (.ref 13) (.ref 14), iA, iA, iK, iL, iL, iQ 9 0, iKA 5, iQ 3 1, iQ 2 2, iQ 4 3, iQ 6 4, iQ 1 5][23]? = some _ from rfl) rfl tw_946 (by decide) (by decide)) (Nat.le_of_ble_eq_true rfl) ?_
  rw [up_ki (n := 5) (r := 23) rfl]
  show ab_WA G mX11_init X _ [(1, .ref 17), (0, .ref 0)] [.int 1] [iX (.ref 1) (.ref 2) (.ref 3) (.ref 7) (.ref 11) (.ref 15) (.ref 16), iC 6 (.ref 18), iSA 0, iT (.ref 4) (.ref 5) (.ref 6), iA, iA, iK, iT (.ref 8) (.ref 9) (.ref 10), iA, iA, iK, iT (.ref 12) (.ref 13) (.ref 14), iA, iA, iK, iL, iL, iQ 9 0, iKA 6, iQ 3 1, iQ 2 2, iQ 4 3, iQ 6 4, iQ 1 5]
  refine ab_pop hX dX11_init_172 rfl ?_
  refine ab_aload_n hX dX11_init_173 mm1 ?_
  refine ab_getfield (v := .ref 1) hX dX11_init_174 (fs_X11_12_12 rfl) (show [iX (.ref 1) (.ref 2) (.ref 3) (.ref 7) (.ref 11) (.ref 15) (.ref 16), iC 6 (.ref 18), iSA 0, iT (.ref 4) (.ref 5) (.ref 6), iA, iA, iK, iT (.ref 8) (.ref 9) (.ref 10), iA, iA, iK, iT (.ref 12) (.ref 13) (.ref 14), iA, iA, iK, iL, iL, iQ 9 0, iKA 6, iQ 3 1, iQ 2 2, iQ 4 3, iQ 6 4, iQ 1 5][0]? = some _ from rfl) rfl ?_
  refine ab_new hX dX11_init_177 ns_X11_init_66 ?_
  refine ab_dup hX dX11_init_180 rfl ?_
  refine ab_bipush (v := 6) hX dX11_init_181 (by decide) ?_
  show ab_WA G mX11_init X _ [(1, .ref 17), (0, .ref 0)] [.int 6, .ref 24, .ref 24, .ref 1] [iX (.ref 1) (.ref 2) (.ref 3) (.ref 7) (.ref 11) (.ref 15) (.ref 16), iC 6 (.ref 18), iSA 0, iT (.ref 4) (.ref 5) (.ref 6), iA, iA, iK, iT (.ref 8) (.ref 9) (.ref 10), iA, iA, iK, iT (.ref 12) (.ref 13) (.ref 14), iA, iA, iK, iL, iL, iQ 9 0, iKA 6, iQ 3 1, iQ 2 2, iQ 4 3, iQ 6 4, iQ 1 5, iQ 5 0]
  refine ab_callI1 hX dX11_init_183 ss_X11_init_68 (i_X4 hG ps_X8_init_9_5 (show [iX (.ref 1) (.ref 2) (.ref 3) (.ref 7) (.ref 11) (.ref 15) (.ref 16), iC 6 (.ref 18), iSA 0, iT (.ref 4) (.ref 5) (.ref 6), iA, iA, iK, iT (.ref 8) (.ref 9) (.ref 10), iA, iA, iK, iT (.ref 12) (.ref 13) (.ref 14), iA, iA, iK, iL, iL, iQ 9 0, iKA 6, iQ 3 1, iQ 2 2, iQ 4 3, iQ 6 4, iQ 1 5, iQ 5 0][24]? = some _ from rfl)) (Nat.le_of_ble_eq_true rfl) ?_
  show ab_WA G mX11_init X _ [(1, .ref 17), (0, .ref 0)] [.ref 24, .ref 1] [iX (.ref 1) (.ref 2) (.ref 3) (.ref 7) (.ref 11) (.ref 15) (.ref 16), iC 6 (.ref 18), iSA 0, iT (.ref 4) (.ref 5) (.ref 6), iA, iA, iK, iT (.ref 8) (.ref 9) (.ref 10), iA, iA, iK, iT (.ref 12) (.ref 13) (.ref 14), iA, iA, iK, iL, iL, iQ 9 0, iKA 6, iQ 3 1, iQ 2 2, iQ 4 3, iQ 6 4, iQ 1 5, iQ 5 6]
  refine ab_callV1r hX dX11_init_186 (show [iX (.ref 1) (.ref 2) (.ref 3) (.ref 7) (.ref 11) (.ref 15) (.ref 16), iC 6 (.ref 18), iSA 0, iT (.ref 4) (.ref 5) (.ref 6), iA, iA, iK, iT (.ref 8) (.ref 9) (.ref 10), iA, iA, iK, iT (.ref 12) (.ref 13) (.ref 14), iA, iA, iK, iL, iL, iQ 9 0, iKA 6, iQ 3 1, iQ 2 2, iQ 4 3, iQ 6 4, iQ 1 5, iQ 5 6][1]? = some _ from rfl) ss_X11_init_47 (al_add (f := kiF 6) (n := 6) hG (show [iX (.ref 1) (.ref 2) (.ref 3) (.ref 7) (.ref 11) (.ref 15) (.ref 16), iC 6 (.ref 18), iSA 0, iT (.ref 4) (.ref 5) (.ref 6), iA, iA, iK, iT (.ref 8) (.ref 9) (.ref 10), iA, iA, iK, iT (.ref 12) (.ref 13) (.ref 14), iA, iA, iK, iL, iL, iQ 9 0, iKA 6, iQ 3 1, iQ 2 2, iQ 4 3, iQ 6 4, iQ 1 5, iQ 5 6][1]? = some _ from rfl) (show [iX (.ref 1) (.ref 2) (.ref 3) (.ref 7) (.ref 11) (.ref 15) (.ref 16), iC 6 (.ref 18), iSA 0, iT (.ref 4) (.ref 5) (.ref 6), iA, iA, iK, iT (.ref 8) (.ref 9) (.ref 10), iA, iA, iK, iT (.ref 12) (.ref 13) (.ref 14), iA, iA, iK, iL, iL, iQ 9 0, iKA 6, iQ 3 1, iQ 2 2, iQ 4 3, iQ 6 4, iQ 1 5, iQ 5 6][18]? = some _ from rfl) (by decide) (show [iX (.ref 1) (.ref 2) (.ref 3) (.ref 7) (.ref 11) (.ref 15) (.ref 16), iC 6 (.ref 18), iSA 0, iT (.ref 4) (.ref 5) (.ref 6), iA, iA, iK, iT (.ref 8) (.ref 9) (.ref 10), iA, iA, iK, iT (.ref 12) (.ref 13) (.ref 14), iA, iA, iK, iL, iL, iQ 9 0, iKA 6, iQ 3 1, iQ 2 2, iQ 4 3, iQ 6 4, iQ 1 5, iQ 5 6][24]? = some _ from rfl) rfl tw_947 (by decide) (by decide)) (Nat.le_of_ble_eq_true rfl) ?_
  rw [up_ki (n := 6) (r := 24) rfl]
  show ab_WA G mX11_init X _ [(1, .ref 17), (0, .ref 0)] [.int 1] [iX (.ref 1) (.ref 2) (.ref 3) (.ref 7) (.ref 11) (.ref 15) (.ref 16), iC 7 (.ref 18), iSA 0, iT (.ref 4) (.ref 5) (.ref 6), iA, iA, iK, iT (.ref 8) (.ref 9) (.ref 10), iA, iA, iK, iT (.ref 12) (.ref 13) (.ref 14), iA, iA, iK, iL, iL, iQ 9 0, iKA 7, iQ 3 1, iQ 2 2, iQ 4 3, iQ 6 4, iQ 1 5, iQ 5 6]
  refine ab_pop hX dX11_init_189 rfl ?_
  refine ab_aload_n hX dX11_init_190 mm1 ?_
  refine ab_getfield (v := .ref 1) hX dX11_init_191 (fs_X11_12_12 rfl) (show [iX (.ref 1) (.ref 2) (.ref 3) (.ref 7) (.ref 11) (.ref 15) (.ref 16), iC 7 (.ref 18), iSA 0, iT (.ref 4) (.ref 5) (.ref 6), iA, iA, iK, iT (.ref 8) (.ref 9) (.ref 10), iA, iA, iK, iT (.ref 12) (.ref 13) (.ref 14), iA, iA, iK, iL, iL, iQ 9 0, iKA 7, iQ 3 1, iQ 2 2, iQ 4 3, iQ 6 4, iQ 1 5, iQ 5 6][0]? = some _ from rfl) rfl ?_
  refine ab_new hX dX11_init_194 ns_X11_init_69 ?_
  refine ab_dup hX dX11_init_197 rfl ?_
  refine ab_bipush (v := 7) hX dX11_init_198 (by decide) ?_
  show ab_WA G mX11_init X _ [(1, .ref 17), (0, .ref 0)] [.int 7, .ref 25, .ref 25, .ref 1] [iX (.ref 1) (.ref 2) (.ref 3) (.ref 7) (.ref 11) (.ref 15) (.ref 16), iC 7 (.ref 18), iSA 0, iT (.ref 4) (.ref 5) (.ref 6), iA, iA, iK, iT (.ref 8) (.ref 9) (.ref 10), iA, iA, iK, iT (.ref 12) (.ref 13) (.ref 14), iA, iA, iK, iL, iL, iQ 9 0, iKA 7, iQ 3 1, iQ 2 2, iQ 4 3, iQ 6 4, iQ 1 5, iQ 5 6, iQ 7 0]
  refine ab_callI1 hX dX11_init_200 ss_X11_init_71 (i_X6 hG ps_X8_init_9_7 (show [iX (.ref 1) (.ref 2) (.ref 3) (.ref 7) (.ref 11) (.ref 15) (.ref 16), iC 7 (.ref 18), iSA 0, iT (.ref 4) (.ref 5) (.ref 6), iA, iA, iK, iT (.ref 8) (.ref 9) (.ref 10), iA, iA, iK, iT (.ref 12) (.ref 13) (.ref 14), iA, iA, iK, iL, iL, iQ 9 0, iKA 7, iQ 3 1, iQ 2 2, iQ 4 3, iQ 6 4, iQ 1 5, iQ 5 6, iQ 7 0][25]? = some _ from rfl)) (Nat.le_of_ble_eq_true rfl) ?_
  show ab_WA G mX11_init X _ [(1, .ref 17), (0, .ref 0)] [.ref 25, .ref 1] [iX (.ref 1) (.ref 2) (.ref 3) (.ref 7) (.ref 11) (.ref 15) (.ref 16), iC 7 (.ref 18), iSA 0, iT (.ref 4) (.ref 5) (.ref 6), iA, iA, iK, iT (.ref 8) (.ref 9) (.ref 10), iA, iA, iK, iT (.ref 12) (.ref 13) (.ref 14), iA, iA, iK, iL, iL, iQ 9 0, iKA 7, iQ 3 1, iQ 2 2, iQ 4 3, iQ 6 4, iQ 1 5, iQ 5 6, iQ 7 7]
  refine ab_callV1r hX dX11_init_203 (show [iX (.ref 1) (.ref 2) (.ref 3) (.ref 7) (.ref 11) (.ref 15) (.ref 16), iC 7 (.ref 18), iSA 0, iT (.ref 4) (.ref 5) (.ref 6), iA, iA, iK, iT (.ref 8) (.ref 9) (.ref 10), iA, iA, iK, iT (.ref 12) (.ref 13) (.ref 14), iA, iA, iK, iL, iL, iQ 9 0, iKA 7, iQ 3 1, iQ 2 2, iQ 4 3, iQ 6 4, iQ 1 5, iQ 5 6, iQ 7 7][1]? = some _ from rfl) ss_X11_init_47 (al_add (f := kiF 7) (n := 7) hG (show [iX (.ref 1) (.ref 2) (.ref 3) (.ref 7) (.ref 11) (.ref 15) (.ref 16), iC 7 (.ref 18), iSA 0, iT (.ref 4) (.ref 5) (.ref 6), iA, iA, iK, iT (.ref 8) (.ref 9) (.ref 10), iA, iA, iK, iT (.ref 12) (.ref 13) (.ref 14), iA, iA, iK, iL, iL, iQ 9 0, iKA 7, iQ 3 1, iQ 2 2, iQ 4 3, iQ 6 4, iQ 1 5, iQ 5 6, iQ 7 7][1]? = some _ from rfl) (show [iX (.ref 1) (.ref 2) (.ref 3) (.ref 7) (.ref 11) (.ref 15) (.ref 16), iC 7 (.ref 18), iSA 0, iT (.ref 4) (.ref 5) (.ref 6), iA, iA, iK, iT (.ref 8) (.ref 9) (.ref 10), iA, iA, iK, iT (.ref 12) (.ref 13) (.ref 14), iA, iA, iK, iL, iL, iQ 9 0, iKA 7, iQ 3 1, iQ 2 2, iQ 4 3, iQ 6 4, iQ 1 5, iQ 5 6, iQ 7 7][18]? = some _ from rfl) (by decide) (show [iX (.ref 1) (.ref 2) (.ref 3) (.ref 7) (.ref 11) (.ref 15) (.ref 16), iC 7 (.ref 18), iSA 0, iT (.ref 4) (.ref 5) (.ref 6), iA, iA, iK, iT (.ref 8) (.ref 9) (.ref 10), iA, iA, iK, iT (.ref 12) (.ref 13) (.ref 14), iA, iA, iK, iL, iL, iQ 9 0, iKA 7, iQ 3 1, iQ 2 2, iQ 4 3, iQ 6 4, iQ 1 5, iQ 5 6, iQ 7 7][25]? = some _ from rfl) rfl tw_948 (by decide) (by decide)) (Nat.le_of_ble_eq_true rfl) ?_
  rw [up_ki (n := 7) (r := 25) rfl]
  show ab_WA G mX11_init X _ [(1, .ref 17), (0, .ref 0)] [.int 1] [iX (.ref 1) (.ref 2) (.ref 3) (.ref 7) (.ref 11) (.ref 15) (.ref 16), iC 8 (.ref 18), iSA 0, iT (.ref 4) (.ref 5) (.ref 6), iA, iA, iK, iT (.ref 8) (.ref 9) (.ref 10), iA, iA, iK, iT (.ref 12) (.ref 13) (.ref 14), iA, iA, iK, iL, iL, iQ 9 0, iKA 8, iQ 3 1, iQ 2 2, iQ 4 3, iQ 6 4, iQ 1 5, iQ 5 6, iQ 7 7]
  refine ab_pop hX dX11_init_206 rfl ?_
  refine ab_iconst (v := 0) hX dX11_init_207 (by decide) ?_
  refine ab_istore_n hX dX11_init_208 rfl (by decide) rfl ?_
  show ab_WA G mX11_init X _ [(2, .int 0), (1, .ref 17), (0, .ref 0)] [] [iX (.ref 1) (.ref 2) (.ref 3) (.ref 7) (.ref 11) (.ref 15) (.ref 16), iC 8 (.ref 18), iSA 0, iT (.ref 4) (.ref 5) (.ref 6), iA, iA, iK, iT (.ref 8) (.ref 9) (.ref 10), iA, iA, iK, iT (.ref 12) (.ref 13) (.ref 14), iA, iA, iK, iL, iL, iQ 9 0, iKA 8, iQ 3 1, iQ 2 2, iQ 4 3, iQ 6 4, iQ 1 5, iQ 5 6, iQ 7 7]
  refine ab_iload_n hX dX11_init_209 mm0 ?_
  refine ab_aload_n hX dX11_init_210 mm2 ?_
  refine ab_getfield (v := .ref 2) hX dX11_init_211 (fs_X11_18_12 rfl) (show [iX (.ref 1) (.ref 2) (.ref 3) (.ref 7) (.ref 11) (.ref 15) (.ref 16), iC 8 (.ref 18), iSA 0, iT (.ref 4) (.ref 5) (.ref 6), iA, iA, iK, iT (.ref 8) (.ref 9) (.ref 10), iA, iA, iK, iT (.ref 12) (.ref 13) (.ref 14), iA, iA, iK, iL, iL, iQ 9 0, iKA 8, iQ 3 1, iQ 2 2, iQ 4 3, iQ 6 4, iQ 1 5, iQ 5 6, iQ 7 7][0]? = some _ from rfl) rfl ?_
  refine ab_alen (v := 8) hX dX11_init_214 (show [iX (.ref 1) (.ref 2) (.ref 3) (.ref 7) (.ref 11) (.ref 15) (.ref 16), iC 8 (.ref 18), iSA 0, iT (.ref 4) (.ref 5) (.ref 6), iA, iA, iK, iT (.ref 8) (.ref 9) (.ref 10), iA, iA, iK, iT (.ref 12) (.ref 13) (.ref 14), iA, iA, iK, iL, iL, iQ 9 0, iKA 8, iQ 3 1, iQ 2 2, iQ 4 3, iQ 6 4, iQ 1 5, iQ 5 6, iQ 7 7][2]? = some _ from rfl) (by decide) rfl ?_
  refine ab_icmpge (tgt := 238) hX dX11_init_215 (by decide) (fun h_ => absurd h_ (by decide)) (fun _ => ?_)
  refine ab_aload_n hX dX11_init_218 mm2 ?_
  refine ab_getfield (v := .ref 2) hX dX11_init_219 (fs_X11_18_12 rfl) (show [iX (.ref 1) (.ref 2) (.ref 3) (.ref 7) (.ref 11) (.ref 15) (.ref 16), iC 8 (.ref 18), iSA 0, iT (.ref 4) (.ref 5) (.ref 6), iA, iA, iK, iT (.ref 8) (.ref 9) (.ref 10), iA, iA, iK, iT (.ref 12) (.ref 13) (.ref 14), iA, iA, iK, iL, iL, iQ 9 0, iKA 8, iQ 3 1, iQ 2 2, iQ 4 3, iQ 6 4, iQ 1 5, iQ 5 6, iQ 7 7][0]? = some _ from rfl) rfl ?_
  refine ab_iload_n hX dX11_init_222 mm0 ?_
  refine ab_new hX dX11_init_223 ns_X11_init_16 ?_
  refine ab_dup hX dX11_init_226 rfl ?_
  refine ab_aload_n hX dX11_init_227 mm1 ?_
  refine ab_callI1 hX dX11_init_228 ss_X11_init_72 (i_X9 hG ga_n) (Nat.le_of_ble_eq_true rfl) ?_
  show ab_WA G mX11_init X _ [(2, .int 0), (1, .ref 17), (0, .ref 0)] [.ref 26, .int 0, .ref 2] [iX (.ref 1) (.ref 2) (.ref 3) (.ref 7) (.ref 11) (.ref 15) (.ref 16), iC 8 (.ref 18), iSA 0, iT (.ref 4) (.ref 5) (.ref 6), iA, iA, iK, iT (.ref 8) (.ref 9) (.ref 10), iA, iA, iK, iT (.ref 12) (.ref 13) (.ref 14), iA, iA, iK, iL, iL, iQ 9 0, iKA 8, iQ 3 1, iQ 2 2, iQ 4 3, iQ 6 4, iQ 1 5, iQ 5 6, iQ 7 7, iS (.ref 27) (.ref 17), iN]
  refine ab_aastore (n := 8) (f := shF 0) (i := 0) (h1 := [iX (.ref 1) (.ref 2) (.ref 3) (.ref 7) (.ref 11) (.ref 15) (.ref 16), iC 8 (.ref 18), iSA 1, iT (.ref 4) (.ref 5) (.ref 6), iA, iA, iK, iT (.ref 8) (.ref 9) (.ref 10), iA, iA, iK, iT (.ref 12) (.ref 13) (.ref 14), iA, iA, iK, iL, iL, iQ 9 0, iKA 8, iQ 3 1, iQ 2 2, iQ 4 3, iQ 6 4, iQ 1 5, iQ 5 6, iQ 7 7, iS (.ref 27) (.ref 17), iN]) hX dX11_init_231 (Or.inr ⟨rfl, rfl⟩) (show [iX (.ref 1) (.ref 2) (.ref 3) (.ref 7) (.ref 11) (.ref 15) (.ref 16), iC 8 (.ref 18), iSA 0, iT (.ref 4) (.ref 5) (.ref 6), iA, iA, iK, iT (.ref 8) (.ref 9) (.ref 10), iA, iA, iK, iT (.ref 12) (.ref 13) (.ref 14), iA, iA, iK, iL, iL, iQ 9 0, iKA 8, iQ 3 1, iQ 2 2, iQ 4 3, iQ 6 4, iQ 1 5, iQ 5 6, iQ 7 7, iS (.ref 27) (.ref 17), iN][2]? = some _ from rfl) (show vp_in (nI 0) 8 from vp_in_nI (by decide) (by decide)) (show [iX (.ref 1) (.ref 2) (.ref 3) (.ref 7) (.ref 11) (.ref 15) (.ref 16), iC 8 (.ref 18), iSA 0, iT (.ref 4) (.ref 5) (.ref 6), iA, iA, iK, iT (.ref 8) (.ref 9) (.ref 10), iA, iA, iK, iT (.ref 12) (.ref 13) (.ref 14), iA, iA, iK, iL, iL, iQ 9 0, iKA 8, iQ 3 1, iQ 2 2, iQ 4 3, iQ 6 4, iQ 1 5, iQ 5 6, iQ 7 7, iS (.ref 27) (.ref 17), iN][26]? = some _ from rfl) rfl (by rw [show (((0 : Int32).toNatClampNeg) = 0) from rfl, up_sh (n := 0) rfl]; rfl) ?_
  refine ab_iinc (v := 1) hX dX11_init_232 mm0 (by decide) (by decide) rfl ?_
  refine ab_goto (tgt := 209) hX dX11_init_235 (by decide) ?_
  show ab_WA G mX11_init X _ [(2, .int 1), (1, .ref 17), (0, .ref 0)] [] [iX (.ref 1) (.ref 2) (.ref 3) (.ref 7) (.ref 11) (.ref 15) (.ref 16), iC 8 (.ref 18), iSA 1, iT (.ref 4) (.ref 5) (.ref 6), iA, iA, iK, iT (.ref 8) (.ref 9) (.ref 10), iA, iA, iK, iT (.ref 12) (.ref 13) (.ref 14), iA, iA, iK, iL, iL, iQ 9 0, iKA 8, iQ 3 1, iQ 2 2, iQ 4 3, iQ 6 4, iQ 1 5, iQ 5 6, iQ 7 7, iS (.ref 27) (.ref 17), iN]
  refine ab_iload_n hX dX11_init_209 mm0 ?_
  refine ab_aload_n hX dX11_init_210 mm2 ?_
  refine ab_getfield (v := .ref 2) hX dX11_init_211 (fs_X11_18_12 rfl) (show [iX (.ref 1) (.ref 2) (.ref 3) (.ref 7) (.ref 11) (.ref 15) (.ref 16), iC 8 (.ref 18), iSA 1, iT (.ref 4) (.ref 5) (.ref 6), iA, iA, iK, iT (.ref 8) (.ref 9) (.ref 10), iA, iA, iK, iT (.ref 12) (.ref 13) (.ref 14), iA, iA, iK, iL, iL, iQ 9 0, iKA 8, iQ 3 1, iQ 2 2, iQ 4 3, iQ 6 4, iQ 1 5, iQ 5 6, iQ 7 7, iS (.ref 27) (.ref 17), iN][0]? = some _ from rfl) rfl ?_
  refine ab_alen (v := 8) hX dX11_init_214 (show [iX (.ref 1) (.ref 2) (.ref 3) (.ref 7) (.ref 11) (.ref 15) (.ref 16), iC 8 (.ref 18), iSA 1, iT (.ref 4) (.ref 5) (.ref 6), iA, iA, iK, iT (.ref 8) (.ref 9) (.ref 10), iA, iA, iK, iT (.ref 12) (.ref 13) (.ref 14), iA, iA, iK, iL, iL, iQ 9 0, iKA 8, iQ 3 1, iQ 2 2, iQ 4 3, iQ 6 4, iQ 1 5, iQ 5 6, iQ 7 7, iS (.ref 27) (.ref 17), iN][2]? = some _ from rfl) (by decide) rfl ?_
  refine ab_icmpge (tgt := 238) hX dX11_init_215 (by decide) (fun h_ => absurd h_ (by decide)) (fun _ => ?_)
  refine ab_aload_n hX dX11_init_218 mm2 ?_
  refine ab_getfield (v := .ref 2) hX dX11_init_219 (fs_X11_18_12 rfl) (show [iX (.ref 1) (.ref 2) (.ref 3) (.ref 7) (.ref 11) (.ref 15) (.ref 16), iC 8 (.ref 18), iSA 1, iT (.ref 4) (.ref 5) (.ref 6), iA, iA, iK, iT (.ref 8) (.ref 9) (.ref 10), iA, iA, iK, iT (.ref 12) (.ref 13) (.ref 14), iA, iA, iK, iL, iL, iQ 9 0, iKA 8, iQ 3 1, iQ 2 2, iQ 4 3, iQ 6 4, iQ 1 5, iQ 5 6, iQ 7 7, iS (.ref 27) (.ref 17), iN][0]? = some _ from rfl) rfl ?_
  refine ab_iload_n hX dX11_init_222 mm0 ?_
  refine ab_new hX dX11_init_223 ns_X11_init_16 ?_
  refine ab_dup hX dX11_init_226 rfl ?_
  refine ab_aload_n hX dX11_init_227 mm1 ?_
  refine ab_callI1 hX dX11_init_228 ss_X11_init_72 (i_X9 hG ga_n) (Nat.le_of_ble_eq_true rfl) ?_
  show ab_WA G mX11_init X _ [(2, .int 1), (1, .ref 17), (0, .ref 0)] [.ref 28, .int 1, .ref 2] [iX (.ref 1) (.ref 2) (.ref 3) (.ref 7) (.ref 11) (.ref 15) (.ref 16), iC 8 (.ref 18), iSA 1, iT (.ref 4) (.ref 5) (.ref 6), iA, iA, iK, iT (.ref 8) (.ref 9) (.ref 10), iA, iA, iK, iT (.ref 12) (.ref 13) (.ref 14), iA, iA, iK, iL, iL, iQ 9 0, iKA 8, iQ 3 1, iQ 2 2, iQ 4 3, iQ 6 4, iQ 1 5, iQ 5 6, iQ 7 7, iS (.ref 27) (.ref 17), iN, iS (.ref 29) (.ref 17), iN]
  refine ab_aastore (n := 8) (f := shF 1) (i := 1) (h1 := [iX (.ref 1) (.ref 2) (.ref 3) (.ref 7) (.ref 11) (.ref 15) (.ref 16), iC 8 (.ref 18), iSA 2, iT (.ref 4) (.ref 5) (.ref 6), iA, iA, iK, iT (.ref 8) (.ref 9) (.ref 10), iA, iA, iK, iT (.ref 12) (.ref 13) (.ref 14), iA, iA, iK, iL, iL, iQ 9 0, iKA 8, iQ 3 1, iQ 2 2, iQ 4 3, iQ 6 4, iQ 1 5, iQ 5 6, iQ 7 7, iS (.ref 27) (.ref 17), iN, iS (.ref 29) (.ref 17), iN]) hX dX11_init_231 (Or.inr ⟨rfl, rfl⟩) (show [iX (.ref 1) (.ref 2) (.ref 3) (.ref 7) (.ref 11) (.ref 15) (.ref 16), iC 8 (.ref 18), iSA 1, iT (.ref 4) (.ref 5) (.ref 6), iA, iA, iK, iT (.ref 8) (.ref 9) (.ref 10), iA, iA, iK, iT (.ref 12) (.ref 13) (.ref 14), iA, iA, iK, iL, iL, iQ 9 0, iKA 8, iQ 3 1, iQ 2 2, iQ 4 3, iQ 6 4, iQ 1 5, iQ 5 6, iQ 7 7, iS (.ref 27) (.ref 17), iN, iS (.ref 29) (.ref 17), iN][2]? = some _ from rfl) (show vp_in (nI 1) 8 from vp_in_nI (by decide) (by decide)) (show [iX (.ref 1) (.ref 2) (.ref 3) (.ref 7) (.ref 11) (.ref 15) (.ref 16), iC 8 (.ref 18), iSA 1, iT (.ref 4) (.ref 5) (.ref 6), iA, iA, iK, iT (.ref 8) (.ref 9) (.ref 10), iA, iA, iK, iT (.ref 12) (.ref 13) (.ref 14), iA, iA, iK, iL, iL, iQ 9 0, iKA 8, iQ 3 1, iQ 2 2, iQ 4 3, iQ 6 4, iQ 1 5, iQ 5 6, iQ 7 7, iS (.ref 27) (.ref 17), iN, iS (.ref 29) (.ref 17), iN][28]? = some _ from rfl) rfl (by rw [show (((1 : Int32).toNatClampNeg) = 1) from rfl, up_sh (n := 1) rfl]; rfl) ?_
  refine ab_iinc (v := 2) hX dX11_init_232 mm0 (by decide) (by decide) rfl ?_
  refine ab_goto (tgt := 209) hX dX11_init_235 (by decide) ?_
  show ab_WA G mX11_init X _ [(2, .int 2), (1, .ref 17), (0, .ref 0)] [] [iX (.ref 1) (.ref 2) (.ref 3) (.ref 7) (.ref 11) (.ref 15) (.ref 16), iC 8 (.ref 18), iSA 2, iT (.ref 4) (.ref 5) (.ref 6), iA, iA, iK, iT (.ref 8) (.ref 9) (.ref 10), iA, iA, iK, iT (.ref 12) (.ref 13) (.ref 14), iA, iA, iK, iL, iL, iQ 9 0, iKA 8, iQ 3 1, iQ 2 2, iQ 4 3, iQ 6 4, iQ 1 5, iQ 5 6, iQ 7 7, iS (.ref 27) (.ref 17), iN, iS (.ref 29) (.ref 17), iN]
  refine ab_iload_n hX dX11_init_209 mm0 ?_
  refine ab_aload_n hX dX11_init_210 mm2 ?_
  refine ab_getfield (v := .ref 2) hX dX11_init_211 (fs_X11_18_12 rfl) (show [iX (.ref 1) (.ref 2) (.ref 3) (.ref 7) (.ref 11) (.ref 15) (.ref 16), iC 8 (.ref 18), iSA 2, iT (.ref 4) (.ref 5) (.ref 6), iA, iA, iK, iT (.ref 8) (.ref 9) (.ref 10), iA, iA, iK, iT (.ref 12) (.ref 13) (.ref 14), iA, iA, iK, iL, iL, iQ 9 0, iKA 8, iQ 3 1, iQ 2 2, iQ 4 3, iQ 6 4, iQ 1 5, iQ 5 6, iQ 7 7, iS (.ref 27) (.ref 17), iN, iS (.ref 29) (.ref 17), iN][0]? = some _ from rfl) rfl ?_
  refine ab_alen (v := 8) hX dX11_init_214 (show [iX (.ref 1) (.ref 2) (.ref 3) (.ref 7) (.ref 11) (.ref 15) (.ref 16), iC 8 (.ref 18), iSA 2, iT (.ref 4) (.ref 5) (.ref 6), iA, iA, iK, iT (.ref 8) (.ref 9) (.ref 10), iA, iA, iK, iT (.ref 12) (.ref 13) (.ref 14), iA, iA, iK, iL, iL, iQ 9 0, iKA 8, iQ 3 1, iQ 2 2, iQ 4 3, iQ 6 4, iQ 1 5, iQ 5 6, iQ 7 7, iS (.ref 27) (.ref 17), iN, iS (.ref 29) (.ref 17), iN][2]? = some _ from rfl) (by decide) rfl ?_
  refine ab_icmpge (tgt := 238) hX dX11_init_215 (by decide) (fun h_ => absurd h_ (by decide)) (fun _ => ?_)
  refine ab_aload_n hX dX11_init_218 mm2 ?_
  refine ab_getfield (v := .ref 2) hX dX11_init_219 (fs_X11_18_12 rfl) (show [iX (.ref 1) (.ref 2) (.ref 3) (.ref 7) (.ref 11) (.ref 15) (.ref 16), iC 8 (.ref 18), iSA 2, iT (.ref 4) (.ref 5) (.ref 6), iA, iA, iK, iT (.ref 8) (.ref 9) (.ref 10), iA, iA, iK, iT (.ref 12) (.ref 13) (.ref 14), iA, iA, iK, iL, iL, iQ 9 0, iKA 8, iQ 3 1, iQ 2 2, iQ 4 3, iQ 6 4, iQ 1 5, iQ 5 6, iQ 7 7, iS (.ref 27) (.ref 17), iN, iS (.ref 29) (.ref 17), iN][0]? = some _ from rfl) rfl ?_
  refine ab_iload_n hX dX11_init_222 mm0 ?_
  refine ab_new hX dX11_init_223 ns_X11_init_16 ?_
  refine ab_dup hX dX11_init_226 rfl ?_
  refine ab_aload_n hX dX11_init_227 mm1 ?_
  refine ab_callI1 hX dX11_init_228 ss_X11_init_72 (i_X9 hG ga_n) (Nat.le_of_ble_eq_true rfl) ?_
  show ab_WA G mX11_init X _ [(2, .int 2), (1, .ref 17), (0, .ref 0)] [.ref 30, .int 2, .ref 2] [iX (.ref 1) (.ref 2) (.ref 3) (.ref 7) (.ref 11) (.ref 15) (.ref 16), iC 8 (.ref 18), iSA 2, iT (.ref 4) (.ref 5) (.ref 6), iA, iA, iK, iT (.ref 8) (.ref 9) (.ref 10), iA, iA, iK, iT (.ref 12) (.ref 13) (.ref 14), iA, iA, iK, iL, iL, iQ 9 0, iKA 8, iQ 3 1, iQ 2 2, iQ 4 3, iQ 6 4, iQ 1 5, iQ 5 6, iQ 7 7, iS (.ref 27) (.ref 17), iN, iS (.ref 29) (.ref 17), iN, iS (.ref 31) (.ref 17), iN]
  refine ab_aastore (n := 8) (f := shF 2) (i := 2) (h1 := [iX (.ref 1) (.ref 2) (.ref 3) (.ref 7) (.ref 11) (.ref 15) (.ref 16), iC 8 (.ref 18), iSA 3, iT (.ref 4) (.ref 5) (.ref 6), iA, iA, iK, iT (.ref 8) (.ref 9) (.ref 10), iA, iA, iK, iT (.ref 12) (.ref 13) (.ref 14), iA, iA, iK, iL, iL, iQ 9 0, iKA 8, iQ 3 1, iQ 2 2, iQ 4 3, iQ 6 4, iQ 1 5, iQ 5 6, iQ 7 7, iS (.ref 27) (.ref 17), iN, iS (.ref 29) (.ref 17), iN, iS (.ref 31) (.ref 17), iN]) hX dX11_init_231 (Or.inr ⟨rfl, rfl⟩) (show [iX (.ref 1) (.ref 2) (.ref 3) (.ref 7) (.ref 11) (.ref 15) (.ref 16), iC 8 (.ref 18), iSA 2, iT (.ref 4) (.ref 5) (.ref 6), iA, iA, iK, iT (.ref 8) (.ref 9) (.ref 10), iA, iA, iK, iT (.ref 12) (.ref 13) (.ref 14), iA, iA, iK, iL, iL, iQ 9 0, iKA 8, iQ 3 1, iQ 2 2, iQ 4 3, iQ 6 4, iQ 1 5, iQ 5 6, iQ 7 7, iS (.ref 27) (.ref 17), iN, iS (.ref 29) (.ref 17), iN, iS (.ref 31) (.ref 17), iN][2]? = some _ from rfl) (show vp_in (nI 2) 8 from vp_in_nI (by decide) (by decide)) (show [iX (.ref 1) (.ref 2) (.ref 3) (.ref 7) (.ref 11) (.ref 15) (.ref 16), iC 8 (.ref 18), iSA 2, iT (.ref 4) (.ref 5) (.ref 6), iA, iA, iK, iT (.ref 8) (.ref 9) (.ref 10), iA, iA, iK, iT (.ref 12) (.ref 13) (.ref 14), iA, iA, iK, iL, iL, iQ 9 0, iKA 8, iQ 3 1, iQ 2 2, iQ 4 3, iQ 6 4, iQ 1 5, iQ 5 6, iQ 7 7, iS (.ref 27) (.ref 17), iN, iS (.ref 29) (.ref 17), iN, iS (.ref 31) (.ref 17), iN][30]? = some _ from rfl) rfl (by rw [show (((2 : Int32).toNatClampNeg) = 2) from rfl, up_sh (n := 2) rfl]; rfl) ?_
  refine ab_iinc (v := 3) hX dX11_init_232 mm0 (by decide) (by decide) rfl ?_
  refine ab_goto (tgt := 209) hX dX11_init_235 (by decide) ?_
  show ab_WA G mX11_init X _ [(2, .int 3), (1, .ref 17), (0, .ref 0)] [] [iX (.ref 1) (.ref 2) (.ref 3) (.ref 7) (.ref 11) (.ref 15) (.ref 16), iC 8 (.ref 18), iSA 3, iT (.ref 4) (.ref 5) (.ref 6), iA, iA, iK, iT (.ref 8) (.ref 9) (.ref 10), iA, iA, iK, iT (.ref 12) (.ref 13) (.ref 14), iA, iA, iK, iL, iL, iQ 9 0, iKA 8, iQ 3 1, iQ 2 2, iQ 4 3, iQ 6 4, iQ 1 5, iQ 5 6, iQ 7 7, iS (.ref 27) (.ref 17), iN, iS (.ref 29) (.ref 17), iN, iS (.ref 31) (.ref 17), iN]
  refine ab_iload_n hX dX11_init_209 mm0 ?_
  refine ab_aload_n hX dX11_init_210 mm2 ?_
  refine ab_getfield (v := .ref 2) hX dX11_init_211 (fs_X11_18_12 rfl) (show [iX (.ref 1) (.ref 2) (.ref 3) (.ref 7) (.ref 11) (.ref 15) (.ref 16), iC 8 (.ref 18), iSA 3, iT (.ref 4) (.ref 5) (.ref 6), iA, iA, iK, iT (.ref 8) (.ref 9) (.ref 10), iA, iA, iK, iT (.ref 12) (.ref 13) (.ref 14), iA, iA, iK, iL, iL, iQ 9 0, iKA 8, iQ 3 1, iQ 2 2, iQ 4 3, iQ 6 4, iQ 1 5, iQ 5 6, iQ 7 7, iS (.ref 27) (.ref 17), iN, iS (.ref 29) (.ref 17), iN, iS (.ref 31) (.ref 17), iN][0]? = some _ from rfl) rfl ?_
  refine ab_alen (v := 8) hX dX11_init_214 (show [iX (.ref 1) (.ref 2) (.ref 3) (.ref 7) (.ref 11) (.ref 15) (.ref 16), iC 8 (.ref 18), iSA 3, iT (.ref 4) (.ref 5) (.ref 6), iA, iA, iK, iT (.ref 8) (.ref 9) (.ref 10), iA, iA, iK, iT (.ref 12) (.ref 13) (.ref 14), iA, iA, iK, iL, iL, iQ 9 0, iKA 8, iQ 3 1, iQ 2 2, iQ 4 3, iQ 6 4, iQ 1 5, iQ 5 6, iQ 7 7, iS (.ref 27) (.ref 17), iN, iS (.ref 29) (.ref 17), iN, iS (.ref 31) (.ref 17), iN][2]? = some _ from rfl) (by decide) rfl ?_
  refine ab_icmpge (tgt := 238) hX dX11_init_215 (by decide) (fun h_ => absurd h_ (by decide)) (fun _ => ?_)
  refine ab_aload_n hX dX11_init_218 mm2 ?_
  refine ab_getfield (v := .ref 2) hX dX11_init_219 (fs_X11_18_12 rfl) (show [iX (.ref 1) (.ref 2) (.ref 3) (.ref 7) (.ref 11) (.ref 15) (.ref 16), iC 8 (.ref 18), iSA 3, iT (.ref 4) (.ref 5) (.ref 6), iA, iA, iK, iT (.ref 8) (.ref 9) (.ref 10), iA, iA, iK, iT (.ref 12) (.ref 13) (.ref 14), iA, iA, iK, iL, iL, iQ 9 0, iKA 8, iQ 3 1, iQ 2 2, iQ 4 3, iQ 6 4, iQ 1 5, iQ 5 6, iQ 7 7, iS (.ref 27) (.ref 17), iN, iS (.ref 29) (.ref 17), iN, iS (.ref 31) (.ref 17), iN][0]? = some _ from rfl) rfl ?_
  refine ab_iload_n hX dX11_init_222 mm0 ?_
  refine ab_new hX dX11_init_223 ns_X11_init_16 ?_
  refine ab_dup hX dX11_init_226 rfl ?_
  refine ab_aload_n hX dX11_init_227 mm1 ?_
  refine ab_callI1 hX dX11_init_228 ss_X11_init_72 (i_X9 hG ga_n) (Nat.le_of_ble_eq_true rfl) ?_
  show ab_WA G mX11_init X _ [(2, .int 3), (1, .ref 17), (0, .ref 0)] [.ref 32, .int 3, .ref 2] [iX (.ref 1) (.ref 2) (.ref 3) (.ref 7) (.ref 11) (.ref 15) (.ref 16), iC 8 (.ref 18), iSA 3, iT (.ref 4) (.ref 5) (.ref 6), iA, iA, iK, iT (.ref 8) (.ref 9) (.ref 10), iA, iA, iK, iT (.ref 12) (.ref 13) (.ref 14), iA, iA, iK, iL, iL, iQ 9 0, iKA 8, iQ 3 1, iQ 2 2, iQ 4 3, iQ 6 4, iQ 1 5, iQ 5 6, iQ 7 7, iS (.ref 27) (.ref 17), iN, iS (.ref 29) (.ref 17), iN, iS (.ref 31) (.ref 17), iN, iS (.ref 33) (.ref 17), iN]
  refine ab_aastore (n := 8) (f := shF 3) (i := 3) (h1 := [iX (.ref 1) (.ref 2) (.ref 3) (.ref 7) (.ref 11) (.ref 15) (.ref 16), iC 8 (.ref 18), iSA 4, iT (.ref 4) (.ref 5) (.ref 6), iA, iA, iK, iT (.ref 8) (.ref 9) (.ref 10), iA, iA, iK, iT (.ref 12) (.ref 13) (.ref 14), iA, iA, iK, iL, iL, iQ 9 0, iKA 8, iQ 3 1, iQ 2 2, iQ 4 3, iQ 6 4, iQ 1 5, iQ 5 6, iQ 7 7, iS (.ref 27) (.ref 17), iN, iS (.ref 29) (.ref 17), iN, iS (.ref 31) (.ref 17), iN, iS (.ref 33) (.ref 17), iN]) hX dX11_init_231 (Or.inr ⟨rfl, rfl⟩) (show [iX (.ref 1) (.ref 2) (.ref 3) (.ref 7) (.ref 11) (.ref 15) (.ref 16), iC 8 (.ref 18), iSA 3, iT (.ref 4) (.ref 5) (.ref 6), iA, iA, iK, iT (.ref 8) (.ref 9) (.ref 10), iA, iA, iK, iT (.ref 12) (.ref 13) (.ref 14), iA, iA, iK, iL, iL, iQ 9 0, iKA 8, iQ 3 1, iQ 2 2, iQ 4 3, iQ 6 4, iQ 1 5, iQ 5 6, iQ 7 7, iS (.ref 27) (.ref 17), iN, iS (.ref 29) (.ref 17), iN, iS (.ref 31) (.ref 17), iN, iS (.ref 33) (.ref 17), iN][2]? = some _ from rfl) (show vp_in (nI 3) 8 from vp_in_nI (by decide) (by decide)) (show [iX (.ref 1) (.ref 2) (.ref 3) (.ref 7) (.ref 11) (.ref 15) (.ref 16), iC 8 (.ref 18), iSA 3, iT (.ref 4) (.ref 5) (.ref 6), iA, iA, iK, iT (.ref 8) (.ref 9) (.ref 10), iA, iA, iK, iT (.ref 12) (.ref 13) (.ref 14), iA, iA, iK, iL, iL, iQ 9 0, iKA 8, iQ 3 1, iQ 2 2, iQ 4 3, iQ 6 4, iQ 1 5, iQ 5 6, iQ 7 7, iS (.ref 27) (.ref 17), iN, iS (.ref 29) (.ref 17), iN, iS (.ref 31) (.ref 17), iN, iS (.ref 33) (.ref 17), iN][32]? = some _ from rfl) rfl (by rw [show (((3 : Int32).toNatClampNeg) = 3) from rfl, up_sh (n := 3) rfl]; rfl) ?_
  refine ab_iinc (v := 4) hX dX11_init_232 mm0 (by decide) (by decide) rfl ?_
  refine ab_goto (tgt := 209) hX dX11_init_235 (by decide) ?_
  show ab_WA G mX11_init X _ [(2, .int 4), (1, .ref 17), (0, .ref 0)] [] [iX (.ref 1) (.ref 2) (.ref 3) (.ref 7) (.ref 11) (.ref 15) (.ref 16), iC 8 (.ref 18), iSA 4, iT (.ref 4) (.ref 5) (.ref 6), iA, iA, iK, iT (.ref 8) (.ref 9) (.ref 10), iA, iA, iK, iT (.ref 12) (.ref 13) (.ref 14), iA, iA, iK, iL, iL, iQ 9 0, iKA 8, iQ 3 1, iQ 2 2, iQ 4 3, iQ 6 4, iQ 1 5, iQ 5 6, iQ 7 7, iS (.ref 27) (.ref 17), iN, iS (.ref 29) (.ref 17), iN, iS (.ref 31) (.ref 17), iN, iS (.ref 33) (.ref 17), iN]
  refine ab_iload_n hX dX11_init_209 mm0 ?_
  refine ab_aload_n hX dX11_init_210 mm2 ?_
  refine ab_getfield (v := .ref 2) hX dX11_init_211 (fs_X11_18_12 rfl) (show [iX (.ref 1) (.ref 2) (.ref 3) (.ref 7) (.ref 11) (.ref 15) (.ref 16), iC 8 (.ref 18), iSA 4, iT (.ref 4) (.ref 5) (.ref 6), iA, iA, iK, iT (.ref 8) (.ref 9) (.ref 10), iA, iA, iK, iT (.ref 12) (.ref 13) (.ref 14), iA, iA, iK, iL, iL, iQ 9 0, iKA 8, iQ 3 1, iQ 2 2, iQ 4 3, iQ 6 4, iQ 1 5, iQ 5 6, iQ 7 7, iS (.ref 27) (.ref 17), iN, iS (.ref 29) (.ref 17), iN, iS (.ref 31) (.ref 17), iN, iS (.ref 33) (.ref 17), iN][0]? = some _ from rfl) rfl ?_
  refine ab_alen (v := 8) hX dX11_init_214 (show [iX (.ref 1) (.ref 2) (.ref 3) (.ref 7) (.ref 11) (.ref 15) (.ref 16), iC 8 (.ref 18), iSA 4, iT (.ref 4) (.ref 5) (.ref 6), iA, iA, iK, iT (.ref 8) (.ref 9) (.ref 10), iA, iA, iK, iT (.ref 12) (.ref 13) (.ref 14), iA, iA, iK, iL, iL, iQ 9 0, iKA 8, iQ 3 1, iQ 2 2, iQ 4 3, iQ 6 4, iQ 1 5, iQ 5 6, iQ 7 7, iS (.ref 27) (.ref 17), iN, iS (.ref 29) (.ref 17), iN, iS (.ref 31) (.ref 17), iN, iS (.ref 33) (.ref 17), iN][2]? = some _ from rfl) (by decide) rfl ?_
  refine ab_icmpge (tgt := 238) hX dX11_init_215 (by decide) (fun h_ => absurd h_ (by decide)) (fun _ => ?_)
  refine ab_aload_n hX dX11_init_218 mm2 ?_
  refine ab_getfield (v := .ref 2) hX dX11_init_219 (fs_X11_18_12 rfl) (show [iX (.ref 1) (.ref 2) (.ref 3) (.ref 7) (.ref 11) (.ref 15) (.ref 16), iC 8 (.ref 18), iSA 4, iT (.ref 4) (.ref 5) (.ref 6), iA, iA, iK, iT (.ref 8) (.ref 9) (.ref 10), iA, iA, iK, iT (.ref 12) (.ref 13) (.ref 14), iA, iA, iK, iL, iL, iQ 9 0, iKA 8, iQ 3 1, iQ 2 2, iQ 4 3, iQ 6 4, iQ 1 5, iQ 5 6, iQ 7 7, iS (.ref 27) (.ref 17), iN, iS (.ref 29) (.ref 17), iN, iS (.ref 31) (.ref 17), iN, iS (.ref 33) (.ref 17), iN][0]? = some _ from rfl) rfl ?_
  refine ab_iload_n hX dX11_init_222 mm0 ?_
  refine ab_new hX dX11_init_223 ns_X11_init_16 ?_
  refine ab_dup hX dX11_init_226 rfl ?_
  refine ab_aload_n hX dX11_init_227 mm1 ?_
  refine ab_callI1 hX dX11_init_228 ss_X11_init_72 (i_X9 hG ga_n) (Nat.le_of_ble_eq_true rfl) ?_
  show ab_WA G mX11_init X _ [(2, .int 4), (1, .ref 17), (0, .ref 0)] [.ref 34, .int 4, .ref 2] [iX (.ref 1) (.ref 2) (.ref 3) (.ref 7) (.ref 11) (.ref 15) (.ref 16), iC 8 (.ref 18), iSA 4, iT (.ref 4) (.ref 5) (.ref 6), iA, iA, iK, iT (.ref 8) (.ref 9) (.ref 10), iA, iA, iK, iT (.ref 12) (.ref 13) (.ref 14), iA, iA, iK, iL, iL, iQ 9 0, iKA 8, iQ 3 1, iQ 2 2, iQ 4 3, iQ 6 4, iQ 1 5, iQ 5 6, iQ 7 7, iS (.ref 27) (.ref 17), iN, iS (.ref 29) (.ref 17), iN, iS (.ref 31) (.ref 17), iN, iS (.ref 33) (.ref 17), iN, iS (.ref 35) (.ref 17), iN]
  refine ab_aastore (n := 8) (f := shF 4) (i := 4) (h1 := [iX (.ref 1) (.ref 2) (.ref 3) (.ref 7) (.ref 11) (.ref 15) (.ref 16), iC 8 (.ref 18), iSA 5, iT (.ref 4) (.ref 5) (.ref 6), iA, iA, iK, iT (.ref 8) (.ref 9) (.ref 10), iA, iA, iK, iT (.ref 12) (.ref 13) (.ref 14), iA, iA, iK, iL, iL, iQ 9 0, iKA 8, iQ 3 1, iQ 2 2, iQ 4 3, iQ 6 4, iQ 1 5, iQ 5 6, iQ 7 7, iS (.ref 27) (.ref 17), iN, iS (.ref 29) (.ref 17), iN, iS (.ref 31) (.ref 17), iN, iS (.ref 33) (.ref 17), iN, iS (.ref 35) (.ref 17), iN]) hX dX11_init_231 (Or.inr ⟨rfl, rfl⟩) (show [iX (.ref 1) (.ref 2) (.ref 3) (.ref 7) (.ref 11) (.ref 15) (.ref 16), iC 8 (.ref 18), iSA 4, iT (.ref 4) (.ref 5) (.ref 6), iA, iA, iK, iT (.ref 8) (.ref 9) (.ref 10), iA, iA, iK, iT (.ref 12) (.ref 13) (.ref 14), iA, iA, iK, iL, iL, iQ 9 0, iKA 8, iQ 3 1, iQ 2 2, iQ 4 3, iQ 6 4, iQ 1 5, iQ 5 6, iQ 7 7, iS (.ref 27) (.ref 17), iN, iS (.ref 29) (.ref 17), iN, iS (.ref 31) (.ref 17), iN, iS (.ref 33) (.ref 17), iN, iS (.ref 35) (.ref 17), iN][2]? = some _ from rfl) (show vp_in (nI 4) 8 from vp_in_nI (by decide) (by decide)) (show [iX (.ref 1) (.ref 2) (.ref 3) (.ref 7) (.ref 11) (.ref 15) (.ref 16), iC 8 (.ref 18), iSA 4, iT (.ref 4) (.ref 5) (.ref 6), iA, iA, iK, iT (.ref 8) (.ref 9) (.ref 10), iA, iA, iK, iT (.ref 12) (.ref 13) (.ref 14), iA, iA, iK, iL, iL, iQ 9 0, iKA 8, iQ 3 1, iQ 2 2, iQ 4 3, iQ 6 4, iQ 1 5, iQ 5 6, iQ 7 7, iS (.ref 27) (.ref 17), iN, iS (.ref 29) (.ref 17), iN, iS (.ref 31) (.ref 17), iN, iS (.ref 33) (.ref 17), iN, iS (.ref 35) (.ref 17), iN][34]? = some _ from rfl) rfl (by rw [show (((4 : Int32).toNatClampNeg) = 4) from rfl, up_sh (n := 4) rfl]; rfl) ?_
  refine ab_iinc (v := 5) hX dX11_init_232 mm0 (by decide) (by decide) rfl ?_
  refine ab_goto (tgt := 209) hX dX11_init_235 (by decide) ?_
  show ab_WA G mX11_init X _ [(2, .int 5), (1, .ref 17), (0, .ref 0)] [] [iX (.ref 1) (.ref 2) (.ref 3) (.ref 7) (.ref 11) (.ref 15) (.ref 16), iC 8 (.ref 18), iSA 5, iT (.ref 4) (.ref 5) (.ref 6), iA, iA, iK, iT (.ref 8) (.ref 9) (.ref 10), iA, iA, iK, iT (.ref 12) (.ref 13) (.ref 14), iA, iA, iK, iL, iL, iQ 9 0, iKA 8, iQ 3 1, iQ 2 2, iQ 4 3, iQ 6 4, iQ 1 5, iQ 5 6, iQ 7 7, iS (.ref 27) (.ref 17), iN, iS (.ref 29) (.ref 17), iN, iS (.ref 31) (.ref 17), iN, iS (.ref 33) (.ref 17), iN, iS (.ref 35) (.ref 17), iN]
  refine ab_iload_n hX dX11_init_209 mm0 ?_
  refine ab_aload_n hX dX11_init_210 mm2 ?_
  refine ab_getfield (v := .ref 2) hX dX11_init_211 (fs_X11_18_12 rfl) (show [iX (.ref 1) (.ref 2) (.ref 3) (.ref 7) (.ref 11) (.ref 15) (.ref 16), iC 8 (.ref 18), iSA 5, iT (.ref 4) (.ref 5) (.ref 6), iA, iA, iK, iT (.ref 8) (.ref 9) (.ref 10), iA, iA, iK, iT (.ref 12) (.ref 13) (.ref 14), iA, iA, iK, iL, iL, iQ 9 0, iKA 8, iQ 3 1, iQ 2 2, iQ 4 3, iQ 6 4, iQ 1 5, iQ 5 6, iQ 7 7, iS (.ref 27) (.ref 17), iN, iS (.ref 29) (.ref 17), iN, iS (.ref 31) (.ref 17), iN, iS (.ref 33) (.ref 17), iN, iS (.ref 35) (.ref 17), iN][0]? = some _ from rfl) rfl ?_
  refine ab_alen (v := 8) hX dX11_init_214 (show [iX (.ref 1) (.ref 2) (.ref 3) (.ref 7) (.ref 11) (.ref 15) (.ref 16), iC 8 (.ref 18), iSA 5, iT (.ref 4) (.ref 5) (.ref 6), iA, iA, iK, iT (.ref 8) (.ref 9) (.ref 10), iA, iA, iK, iT (.ref 12) (.ref 13) (.ref 14), iA, iA, iK, iL, iL, iQ 9 0, iKA 8, iQ 3 1, iQ 2 2, iQ 4 3, iQ 6 4, iQ 1 5, iQ 5 6, iQ 7 7, iS (.ref 27) (.ref 17), iN, iS (.ref 29) (.ref 17), iN, iS (.ref 31) (.ref 17), iN, iS (.ref 33) (.ref 17), iN, iS (.ref 35) (.ref 17), iN][2]? = some _ from rfl) (by decide) rfl ?_
  refine ab_icmpge (tgt := 238) hX dX11_init_215 (by decide) (fun h_ => absurd h_ (by decide)) (fun _ => ?_)
  refine ab_aload_n hX dX11_init_218 mm2 ?_
  refine ab_getfield (v := .ref 2) hX dX11_init_219 (fs_X11_18_12 rfl) (show [iX (.ref 1) (.ref 2) (.ref 3) (.ref 7) (.ref 11) (.ref 15) (.ref 16), iC 8 (.ref 18), iSA 5, iT (.ref 4) (.ref 5) (.ref 6), iA, iA, iK, iT (.ref 8) (.ref 9) (.ref 10), iA, iA, iK, iT (.ref 12) (.ref 13) (.ref 14), iA, iA, iK, iL, iL, iQ 9 0, iKA 8, iQ 3 1, iQ 2 2, iQ 4 3, iQ 6 4, iQ 1 5, iQ 5 6, iQ 7 7, iS (.ref 27) (.ref 17), iN, iS (.ref 29) (.ref 17), iN, iS (.ref 31) (.ref 17), iN, iS (.ref 33) (.ref 17), iN, iS (.ref 35) (.ref 17), iN][0]? = some _ from rfl) rfl ?_
  refine ab_iload_n hX dX11_init_222 mm0 ?_
  refine ab_new hX dX11_init_223 ns_X11_init_16 ?_
  refine ab_dup hX dX11_init_226 rfl ?_
  refine ab_aload_n hX dX11_init_227 mm1 ?_
  refine ab_callI1 hX dX11_init_228 ss_X11_init_72 (i_X9 hG ga_n) (Nat.le_of_ble_eq_true rfl) ?_
  show ab_WA G mX11_init X _ [(2, .int 5), (1, .ref 17), (0, .ref 0)] [.ref 36, .int 5, .ref 2] [iX (.ref 1) (.ref 2) (.ref 3) (.ref 7) (.ref 11) (.ref 15) (.ref 16), iC 8 (.ref 18), iSA 5, iT (.ref 4) (.ref 5) (.ref 6), iA, iA, iK, iT (.ref 8) (.ref 9) (.ref 10), iA, iA, iK, iT (.ref 12) (.ref 13) (.ref 14), iA, iA, iK, iL, iL, iQ 9 0, iKA 8, iQ 3 1, iQ 2 2, iQ 4 3, iQ 6 4, iQ 1 5, iQ 5 6, iQ 7 7, iS (.ref 27) (.ref 17), iN, iS (.ref 29) (.ref 17), iN, iS (.ref 31) (.ref 17), iN, iS (.ref 33) (.ref 17), iN, iS (.ref 35) (.ref 17), iN, iS (.ref 37) (.ref 17), iN]
  refine ab_aastore (n := 8) (f := shF 5) (i := 5) (h1 := [iX (.ref 1) (.ref 2) (.ref 3) (.ref 7) (.ref 11) (.ref 15) (.ref 16), iC 8 (.ref 18), iSA 6, iT (.ref 4) (.ref 5) (.ref 6), iA, iA, iK, iT (.ref 8) (.ref 9) (.ref 10), iA, iA, iK, iT (.ref 12) (.ref 13) (.ref 14), iA, iA, iK, iL, iL, iQ 9 0, iKA 8, iQ 3 1, iQ 2 2, iQ 4 3, iQ 6 4, iQ 1 5, iQ 5 6, iQ 7 7, iS (.ref 27) (.ref 17), iN, iS (.ref 29) (.ref 17), iN, iS (.ref 31) (.ref 17), iN, iS (.ref 33) (.ref 17), iN, iS (.ref 35) (.ref 17), iN, iS (.ref 37) (.ref 17), iN]) hX dX11_init_231 (Or.inr ⟨rfl, rfl⟩) (show [iX (.ref 1) (.ref 2) (.ref 3) (.ref 7) (.ref 11) (.ref 15) (.ref 16), iC 8 (.ref 18), iSA 5, iT (.ref 4) (.ref 5) (.ref 6), iA, iA, iK, iT (.ref 8) (.ref 9) (.ref 10), iA, iA, iK, iT (.ref 12) (.ref 13) (.ref 14), iA, iA, iK, iL, iL, iQ 9 0, iKA 8, iQ 3 1, iQ 2 2, iQ 4 3, iQ 6 4, iQ 1 5, iQ 5 6, iQ 7 7, iS (.ref 27) (.ref 17), iN, iS (.ref 29) (.ref 17), iN, iS (.ref 31) (.ref 17), iN, iS (.ref 33) (.ref 17), iN, iS (.ref 35) (.ref 17), iN, iS (.ref 37) (.ref 17), iN][2]? = some _ from rfl) (show vp_in (nI 5) 8 from vp_in_nI (by decide) (by decide)) (show [iX (.ref 1) (.ref 2) (.ref 3) (.ref 7) (.ref 11) (.ref 15) (.ref 16), iC 8 (.ref 18), iSA 5, iT (.ref 4) (.ref 5) (.ref 6), iA, iA, iK, iT (.ref 8) (.ref 9) (.ref 10), iA, iA, iK, iT (.ref 12) (.ref 13) (.ref 14), iA, iA, iK, iL, iL, iQ 9 0, iKA 8, iQ 3 1, iQ 2 2, iQ 4 3, iQ 6 4, iQ 1 5, iQ 5 6, iQ 7 7, iS (.ref 27) (.ref 17), iN, iS (.ref 29) (.ref 17), iN, iS (.ref 31) (.ref 17), iN, iS (.ref 33) (.ref 17), iN, iS (.ref 35) (.ref 17), iN, iS (.ref 37) (.ref 17), iN][36]? = some _ from rfl) rfl (by rw [show (((5 : Int32).toNatClampNeg) = 5) from rfl, up_sh (n := 5) rfl]; rfl) ?_
  refine ab_iinc (v := 6) hX dX11_init_232 mm0 (by decide) (by decide) rfl ?_
  refine ab_goto (tgt := 209) hX dX11_init_235 (by decide) ?_
  show ab_WA G mX11_init X _ [(2, .int 6), (1, .ref 17), (0, .ref 0)] [] [iX (.ref 1) (.ref 2) (.ref 3) (.ref 7) (.ref 11) (.ref 15) (.ref 16), iC 8 (.ref 18), iSA 6, iT (.ref 4) (.ref 5) (.ref 6), iA, iA, iK, iT (.ref 8) (.ref 9) (.ref 10), iA, iA, iK, iT (.ref 12) (.ref 13) (.ref 14), iA, iA, iK, iL, iL, iQ 9 0, iKA 8, iQ 3 1, iQ 2 2, iQ 4 3, iQ 6 4, iQ 1 5, iQ 5 6, iQ 7 7, iS (.ref 27) (.ref 17), iN, iS (.ref 29) (.ref 17), iN, iS (.ref 31) (.ref 17), iN, iS (.ref 33) (.ref 17), iN, iS (.ref 35) (.ref 17), iN, iS (.ref 37) (.ref 17), iN]
  refine ab_iload_n hX dX11_init_209 mm0 ?_
  refine ab_aload_n hX dX11_init_210 mm2 ?_
  refine ab_getfield (v := .ref 2) hX dX11_init_211 (fs_X11_18_12 rfl) (show [iX (.ref 1) (.ref 2) (.ref 3) (.ref 7) (.ref 11) (.ref 15) (.ref 16), iC 8 (.ref 18), iSA 6, iT (.ref 4) (.ref 5) (.ref 6), iA, iA, iK, iT (.ref 8) (.ref 9) (.ref 10), iA, iA, iK, iT (.ref 12) (.ref 13) (.ref 14), iA, iA, iK, iL, iL, iQ 9 0, iKA 8, iQ 3 1, iQ 2 2, iQ 4 3, iQ 6 4, iQ 1 5, iQ 5 6, iQ 7 7, iS (.ref 27) (.ref 17), iN, iS (.ref 29) (.ref 17), iN, iS (.ref 31) (.ref 17), iN, iS (.ref 33) (.ref 17), iN, iS (.ref 35) (.ref 17), iN, iS (.ref 37) (.ref 17), iN][0]? = some _ from rfl) rfl ?_
  refine ab_alen (v := 8) hX dX11_init_214 (show [iX (.ref 1) (.ref 2) (.ref 3) (.ref 7) (.ref 11) (.ref 15) (.ref 16), iC 8 (.ref 18), iSA 6, iT (.ref 4) (.ref 5) (.ref 6), iA, iA, iK, iT (.ref 8) (.ref 9) (.ref 10), iA, iA, iK, iT (.ref 12) (.ref 13) (.ref 14), iA, iA, iK, iL, iL, iQ 9 0, iKA 8, iQ 3 1, iQ 2 2, iQ 4 3, iQ 6 4, iQ 1 5, iQ 5 6, iQ 7 7, iS (.ref 27) (.ref 17), iN, iS (.ref 29) (.ref 17), iN, iS (.ref 31) (.ref 17), iN, iS (.ref 33) (.ref 17), iN, iS (.ref 35) (.ref 17), iN, iS (.ref 37) (.ref 17), iN][2]? = some _ from rfl) (by decide) rfl ?_
  refine ab_icmpge (tgt := 238) hX dX11_init_215 (by decide) (fun h_ => absurd h_ (by decide)) (fun _ => ?_)
  refine ab_aload_n hX dX11_init_218 mm2 ?_
  refine ab_getfield (v := .ref 2) hX dX11_init_219 (fs_X11_18_12 rfl) (show [iX (.ref 1) (.ref 2) (.ref 3) (.ref 7) (.ref 11) (.ref 15) (.ref 16), iC 8 (.ref 18), iSA 6, iT (.ref 4) (.ref 5) (.ref 6), iA, iA, iK, iT (.ref 8) (.ref 9) (.ref 10), iA, iA, iK, iT (.ref 12) (.ref 13) (.ref 14), iA, iA, iK, iL, iL, iQ 9 0, iKA 8, iQ 3 1, iQ 2 2, iQ 4 3, iQ 6 4, iQ 1 5, iQ 5 6, iQ 7 7, iS (.ref 27) (.ref 17), iN, iS (.ref 29) (.ref 17), iN, iS (.ref 31) (.ref 17), iN, iS (.ref 33) (.ref 17), iN, iS (.ref 35) (.ref 17), iN, iS (.ref 37) (.ref 17), iN][0]? = some _ from rfl) rfl ?_
  refine ab_iload_n hX dX11_init_222 mm0 ?_
  refine ab_new hX dX11_init_223 ns_X11_init_16 ?_
  refine ab_dup hX dX11_init_226 rfl ?_
  refine ab_aload_n hX dX11_init_227 mm1 ?_
  refine ab_callI1 hX dX11_init_228 ss_X11_init_72 (i_X9 hG ga_n) (Nat.le_of_ble_eq_true rfl) ?_
  show ab_WA G mX11_init X _ [(2, .int 6), (1, .ref 17), (0, .ref 0)] [.ref 38, .int 6, .ref 2] [iX (.ref 1) (.ref 2) (.ref 3) (.ref 7) (.ref 11) (.ref 15) (.ref 16), iC 8 (.ref 18), iSA 6, iT (.ref 4) (.ref 5) (.ref 6), iA, iA, iK, iT (.ref 8) (.ref 9) (.ref 10), iA, iA, iK, iT (.ref 12) (.ref 13) (.ref 14), iA, iA, iK, iL, iL, iQ 9 0, iKA 8, iQ 3 1, iQ 2 2, iQ 4 3, iQ 6 4, iQ 1 5, iQ 5 6, iQ 7 7, iS (.ref 27) (.ref 17), iN, iS (.ref 29) (.ref 17), iN, iS (.ref 31) (.ref 17), iN, iS (.ref 33) (.ref 17), iN, iS (.ref 35) (.ref 17), iN, iS (.ref 37) (.ref 17), iN, iS (.ref 39) (.ref 17), iN]
  refine ab_aastore (n := 8) (f := shF 6) (i := 6) (h1 := [iX (.ref 1) (.ref 2) (.ref 3) (.ref 7) (.ref 11) (.ref 15) (.ref 16), iC 8 (.ref 18), iSA 7, iT (.ref 4) (.ref 5) (.ref 6), iA, iA, iK, iT (.ref 8) (.ref 9) (.ref 10), iA, iA, iK, iT (.ref 12) (.ref 13) (.ref 14), iA, iA, iK, iL, iL, iQ 9 0, iKA 8, iQ 3 1, iQ 2 2, iQ 4 3, iQ 6 4, iQ 1 5, iQ 5 6, iQ 7 7, iS (.ref 27) (.ref 17), iN, iS (.ref 29) (.ref 17), iN, iS (.ref 31) (.ref 17), iN, iS (.ref 33) (.ref 17), iN, iS (.ref 35) (.ref 17), iN, iS (.ref 37) (.ref 17), iN, iS (.ref 39) (.ref 17), iN]) hX dX11_init_231 (Or.inr ⟨rfl, rfl⟩) (show [iX (.ref 1) (.ref 2) (.ref 3) (.ref 7) (.ref 11) (.ref 15) (.ref 16), iC 8 (.ref 18), iSA 6, iT (.ref 4) (.ref 5) (.ref 6), iA, iA, iK, iT (.ref 8) (.ref 9) (.ref 10), iA, iA, iK, iT (.ref 12) (.ref 13) (.ref 14), iA, iA, iK, iL, iL, iQ 9 0, iKA 8, iQ 3 1, iQ 2 2, iQ 4 3, iQ 6 4, iQ 1 5, iQ 5 6, iQ 7 7, iS (.ref 27) (.ref 17), iN, iS (.ref 29) (.ref 17), iN, iS (.ref 31) (.ref 17), iN, iS (.ref 33) (.ref 17), iN, iS (.ref 35) (.ref 17), iN, iS (.ref 37) (.ref 17), iN, iS (.ref 39) (.ref 17), iN][2]? = some _ from rfl) (show vp_in (nI 6) 8 from vp_in_nI (by decide) (by decide)) (show [iX (.ref 1) (.ref 2) (.ref 3) (.ref 7) (.ref 11) (.ref 15) (.ref 16), iC 8 (.ref 18), iSA 6, iT (.ref 4) (.ref 5) (.ref 6), iA, iA, iK, iT (.ref 8) (.ref 9) (.ref 10), iA, iA, iK, iT (.ref 12) (.ref 13) (.ref 14), iA, iA, iK, iL, iL, iQ 9 0, iKA 8, iQ 3 1, iQ 2 2, iQ 4 3, iQ 6 4, iQ 1 5, iQ 5 6, iQ 7 7, iS (.ref 27) (.ref 17), iN, iS (.ref 29) (.ref 17), iN, iS (.ref 31) (.ref 17), iN, iS (.ref 33) (.ref 17), iN, iS (.ref 35) (.ref 17), iN, iS (.ref 37) (.ref 17), iN, iS (.ref 39) (.ref 17), iN][38]? = some _ from rfl) rfl (by rw [show (((6 : Int32).toNatClampNeg) = 6) from rfl, up_sh (n := 6) rfl]; rfl) ?_
  refine ab_iinc (v := 7) hX dX11_init_232 mm0 (by decide) (by decide) rfl ?_
  refine ab_goto (tgt := 209) hX dX11_init_235 (by decide) ?_
  show ab_WA G mX11_init X _ [(2, .int 7), (1, .ref 17), (0, .ref 0)] [] [iX (.ref 1) (.ref 2) (.ref 3) (.ref 7) (.ref 11) (.ref 15) (.ref 16), iC 8 (.ref 18), iSA 7, iT (.ref 4) (.ref 5) (.ref 6), iA, iA, iK, iT (.ref 8) (.ref 9) (.ref 10), iA, iA, iK, iT (.ref 12) (.ref 13) (.ref 14), iA, iA, iK, iL, iL, iQ 9 0, iKA 8, iQ 3 1, iQ 2 2, iQ 4 3, iQ 6 4, iQ 1 5, iQ 5 6, iQ 7 7, iS (.ref 27) (.ref 17), iN, iS (.ref 29) (.ref 17), iN, iS (.ref 31) (.ref 17), iN, iS (.ref 33) (.ref 17), iN, iS (.ref 35) (.ref 17), iN, iS (.ref 37) (.ref 17), iN, iS (.ref 39) (.ref 17), iN]
  refine ab_iload_n hX dX11_init_209 mm0 ?_
  refine ab_aload_n hX dX11_init_210 mm2 ?_
  refine ab_getfield (v := .ref 2) hX dX11_init_211 (fs_X11_18_12 rfl) (show [iX (.ref 1) (.ref 2) (.ref 3) (.ref 7) (.ref 11) (.ref 15) (.ref 16), iC 8 (.ref 18), iSA 7, iT (.ref 4) (.ref 5) (.ref 6), iA, iA, iK, iT (.ref 8) (.ref 9) (.ref 10), iA, iA, iK, iT (.ref 12) (.ref 13) (.ref 14), iA, iA, iK, iL, iL, iQ 9 0, iKA 8, iQ 3 1, iQ 2 2, iQ 4 3, iQ 6 4, iQ 1 5, iQ 5 6, iQ 7 7, iS (.ref 27) (.ref 17), iN, iS (.ref 29) (.ref 17), iN, iS (.ref 31) (.ref 17), iN, iS (.ref 33) (.ref 17), iN, iS (.ref 35) (.ref 17), iN, iS (.ref 37) (.ref 17), iN, iS (.ref 39) (.ref 17), iN][0]? = some _ from rfl) rfl ?_
  refine ab_alen (v := 8) hX dX11_init_214 (show [iX (.ref 1) (.ref 2) (.ref 3) (.ref 7) (.ref 11) (.ref 15) (.ref 16), iC 8 (.ref 18), iSA 7, iT (.ref 4) (.ref 5) (.ref 6), iA, iA, iK, iT (.ref 8) (.ref 9) (.ref 10), iA, iA, iK, iT (.ref 12) (.ref 13) (.ref 14), iA, iA, iK, iL, iL, iQ 9 0, iKA 8, iQ 3 1, iQ 2 2, iQ 4 3, iQ 6 4, iQ 1 5, iQ 5 6, iQ 7 7, iS (.ref 27) (.ref 17), iN, iS (.ref 29) (.ref 17), iN, iS (.ref 31) (.ref 17), iN, iS (.ref 33) (.ref 17), iN, iS (.ref 35) (.ref 17), iN, iS (.ref 37) (.ref 17), iN, iS (.ref 39) (.ref 17), iN][2]? = some _ from rfl) (by decide) rfl ?_
  refine ab_icmpge (tgt := 238) hX dX11_init_215 (by decide) (fun h_ => absurd h_ (by decide)) (fun _ => ?_)
  refine ab_aload_n hX dX11_init_218 mm2 ?_
  refine ab_getfield (v := .ref 2) hX dX11_init_219 (fs_X11_18_12 rfl) (show [iX (.ref 1) (.ref 2) (.ref 3) (.ref 7) (.ref 11) (.ref 15) (.ref 16), iC 8 (.ref 18), iSA 7, iT (.ref 4) (.ref 5) (.ref 6), iA, iA, iK, iT (.ref 8) (.ref 9) (.ref 10), iA, iA, iK, iT (.ref 12) (.ref 13) (.ref 14), iA, iA, iK, iL, iL, iQ 9 0, iKA 8, iQ 3 1, iQ 2 2, iQ 4 3, iQ 6 4, iQ 1 5, iQ 5 6, iQ 7 7, iS (.ref 27) (.ref 17), iN, iS (.ref 29) (.ref 17), iN, iS (.ref 31) (.ref 17), iN, iS (.ref 33) (.ref 17), iN, iS (.ref 35) (.ref 17), iN, iS (.ref 37) (.ref 17), iN, iS (.ref 39) (.ref 17), iN][0]? = some _ from rfl) rfl ?_
  refine ab_iload_n hX dX11_init_222 mm0 ?_
  refine ab_new hX dX11_init_223 ns_X11_init_16 ?_
  refine ab_dup hX dX11_init_226 rfl ?_
  refine ab_aload_n hX dX11_init_227 mm1 ?_
  refine ab_callI1 hX dX11_init_228 ss_X11_init_72 (i_X9 hG ga_n) (Nat.le_of_ble_eq_true rfl) ?_
  show ab_WA G mX11_init X _ [(2, .int 7), (1, .ref 17), (0, .ref 0)] [.ref 40, .int 7, .ref 2] [iX (.ref 1) (.ref 2) (.ref 3) (.ref 7) (.ref 11) (.ref 15) (.ref 16), iC 8 (.ref 18), iSA 7, iT (.ref 4) (.ref 5) (.ref 6), iA, iA, iK, iT (.ref 8) (.ref 9) (.ref 10), iA, iA, iK, iT (.ref 12) (.ref 13) (.ref 14), iA, iA, iK, iL, iL, iQ 9 0, iKA 8, iQ 3 1, iQ 2 2, iQ 4 3, iQ 6 4, iQ 1 5, iQ 5 6, iQ 7 7, iS (.ref 27) (.ref 17), iN, iS (.ref 29) (.ref 17), iN, iS (.ref 31) (.ref 17), iN, iS (.ref 33) (.ref 17), iN, iS (.ref 35) (.ref 17), iN, iS (.ref 37) (.ref 17), iN, iS (.ref 39) (.ref 17), iN, iS (.ref 41) (.ref 17), iN]
  refine ab_aastore (n := 8) (f := shF 7) (i := 7) (h1 := [iX (.ref 1) (.ref 2) (.ref 3) (.ref 7) (.ref 11) (.ref 15) (.ref 16), iC 8 (.ref 18), iSA 8, iT (.ref 4) (.ref 5) (.ref 6), iA, iA, iK, iT (.ref 8) (.ref 9) (.ref 10), iA, iA, iK, iT (.ref 12) (.ref 13) (.ref 14), iA, iA, iK, iL, iL, iQ 9 0, iKA 8, iQ 3 1, iQ 2 2, iQ 4 3, iQ 6 4, iQ 1 5, iQ 5 6, iQ 7 7, iS (.ref 27) (.ref 17), iN, iS (.ref 29) (.ref 17), iN, iS (.ref 31) (.ref 17), iN, iS (.ref 33) (.ref 17), iN, iS (.ref 35) (.ref 17), iN, iS (.ref 37) (.ref 17), iN, iS (.ref 39) (.ref 17), iN, iS (.ref 41) (.ref 17), iN]) hX dX11_init_231 (Or.inr ⟨rfl, rfl⟩) (show [iX (.ref 1) (.ref 2) (.ref 3) (.ref 7) (.ref 11) (.ref 15) (.ref 16), iC 8 (.ref 18), iSA 7, iT (.ref 4) (.ref 5) (.ref 6), iA, iA, iK, iT (.ref 8) (.ref 9) (.ref 10), iA, iA, iK, iT (.ref 12) (.ref 13) (.ref 14), iA, iA, iK, iL, iL, iQ 9 0, iKA 8, iQ 3 1, iQ 2 2, iQ 4 3, iQ 6 4, iQ 1 5, iQ 5 6, iQ 7 7, iS (.ref 27) (.ref 17), iN, iS (.ref 29) (.ref 17), iN, iS (.ref 31) (.ref 17), iN, iS (.ref 33) (.ref 17), iN, iS (.ref 35) (.ref 17), iN, iS (.ref 37) (.ref 17), iN, iS (.ref 39) (.ref 17), iN, iS (.ref 41) (.ref 17), iN][2]? = some _ from rfl) (show vp_in (nI 7) 8 from vp_in_nI (by decide) (by decide)) (show [iX (.ref 1) (.ref 2) (.ref 3) (.ref 7) (.ref 11) (.ref 15) (.ref 16), iC 8 (.ref 18), iSA 7, iT (.ref 4) (.ref 5) (.ref 6), iA, iA, iK, iT (.ref 8) (.ref 9) (.ref 10), iA, iA, iK, iT (.ref 12) (.ref 13) (.ref 14), iA, iA, iK, iL, iL, iQ 9 0, iKA 8, iQ 3 1, iQ 2 2, iQ 4 3, iQ 6 4, iQ 1 5, iQ 5 6, iQ 7 7, iS (.ref 27) (.ref 17), iN, iS (.ref 29) (.ref 17), iN, iS (.ref 31) (.ref 17), iN, iS (.ref 33) (.ref 17), iN, iS (.ref 35) (.ref 17), iN, iS (.ref 37) (.ref 17), iN, iS (.ref 39) (.ref 17), iN, iS (.ref 41) (.ref 17), iN][40]? = some _ from rfl) rfl (by rw [show (((7 : Int32).toNatClampNeg) = 7) from rfl, up_sh (n := 7) rfl]; rfl) ?_
  refine ab_iinc (v := 8) hX dX11_init_232 mm0 (by decide) (by decide) rfl ?_
  refine ab_goto (tgt := 209) hX dX11_init_235 (by decide) ?_
  show ab_WA G mX11_init X _ [(2, .int 8), (1, .ref 17), (0, .ref 0)] [] [iX (.ref 1) (.ref 2) (.ref 3) (.ref 7) (.ref 11) (.ref 15) (.ref 16), iC 8 (.ref 18), iSA 8, iT (.ref 4) (.ref 5) (.ref 6), iA, iA, iK, iT (.ref 8) (.ref 9) (.ref 10), iA, iA, iK, iT (.ref 12) (.ref 13) (.ref 14), iA, iA, iK, iL, iL, iQ 9 0, iKA 8, iQ 3 1, iQ 2 2, iQ 4 3, iQ 6 4, iQ 1 5, iQ 5 6, iQ 7 7, iS (.ref 27) (.ref 17), iN, iS (.ref 29) (.ref 17), iN, iS (.ref 31) (.ref 17), iN, iS (.ref 33) (.ref 17), iN, iS (.ref 35) (.ref 17), iN, iS (.ref 37) (.ref 17), iN, iS (.ref 39) (.ref 17), iN, iS (.ref 41) (.ref 17), iN]
  refine ab_iload_n hX dX11_init_209 mm0 ?_
  refine ab_aload_n hX dX11_init_210 mm2 ?_
  refine ab_getfield (v := .ref 2) hX dX11_init_211 (fs_X11_18_12 rfl) (show [iX (.ref 1) (.ref 2) (.ref 3) (.ref 7) (.ref 11) (.ref 15) (.ref 16), iC 8 (.ref 18), iSA 8, iT (.ref 4) (.ref 5) (.ref 6), iA, iA, iK, iT (.ref 8) (.ref 9) (.ref 10), iA, iA, iK, iT (.ref 12) (.ref 13) (.ref 14), iA, iA, iK, iL, iL, iQ 9 0, iKA 8, iQ 3 1, iQ 2 2, iQ 4 3, iQ 6 4, iQ 1 5, iQ 5 6, iQ 7 7, iS (.ref 27) (.ref 17), iN, iS (.ref 29) (.ref 17), iN, iS (.ref 31) (.ref 17), iN, iS (.ref 33) (.ref 17), iN, iS (.ref 35) (.ref 17), iN, iS (.ref 37) (.ref 17), iN, iS (.ref 39) (.ref 17), iN, iS (.ref 41) (.ref 17), iN][0]? = some _ from rfl) rfl ?_
  refine ab_alen (v := 8) hX dX11_init_214 (show [iX (.ref 1) (.ref 2) (.ref 3) (.ref 7) (.ref 11) (.ref 15) (.ref 16), iC 8 (.ref 18), iSA 8, iT (.ref 4) (.ref 5) (.ref 6), iA, iA, iK, iT (.ref 8) (.ref 9) (.ref 10), iA, iA, iK, iT (.ref 12) (.ref 13) (.ref 14), iA, iA, iK, iL, iL, iQ 9 0, iKA 8, iQ 3 1, iQ 2 2, iQ 4 3, iQ 6 4, iQ 1 5, iQ 5 6, iQ 7 7, iS (.ref 27) (.ref 17), iN, iS (.ref 29) (.ref 17), iN, iS (.ref 31) (.ref 17), iN, iS (.ref 33) (.ref 17), iN, iS (.ref 35) (.ref 17), iN, iS (.ref 37) (.ref 17), iN, iS (.ref 39) (.ref 17), iN, iS (.ref 41) (.ref 17), iN][2]? = some _ from rfl) (by decide) rfl ?_
  refine ab_icmpge (tgt := 238) hX dX11_init_215 (by decide) (fun _ => ?_) (fun h_ => absurd (by decide) h_)
  exact ab_vreturn hX hF dX11_init_238 rfl rfl rfl
theorem ap_get {A L : List ab_E} {n k : Nat} {c : ab_E} (hA : A.length = n) (h : L[k]? = some c) : (A ++ L)[n + k]? = some c := by
  rw [List.getElem?_append_right (by omega), hA, Nat.add_sub_cancel_left]
  exact h
theorem ap_set {A L : List ab_E} {n k : Nat} {c : ab_E} (hA : A.length = n) : (A ++ L).set (n + k) c = A ++ L.set k c := by
  rw [List.set_append_right _ _ (by omega), hA, Nat.add_sub_cancel_left]
theorem ap_new {G : ab_G} {M : ab_M} {X : ab_X} {pc : Nat} {l : List (Nat × Value)} {st : List Value} {A L : List ab_E} {x : ab_E} {n : Nat} (hA : A.length = n) (k : ab_WA G M X pc l (.ref (n + L.length) :: st) (A ++ (L ++ [x]))) : ab_WA G M X pc l (.ref (A ++ L).length :: st) ((A ++ L) ++ [x]) := by
  rw [List.length_append, hA, List.append_assoc]
  exact k
def mz : MS := (fun _ => 0, fun _ _ => 0, fun _ => 0)
