theorem sh_cases (x : Int32) : (∃ j, j < 8 ∧ x = nI j ∧ iw x 0 7 = true ∧ tn x = j) ∨ iw x 0 7 = false := by
  cases h : iw x 0 7 with
  | false => exact Or.inr rfl
  | true =>
    obtain ⟨j, hj, rfl⟩ := iw8 h
    exact Or.inl ⟨j, hj, rfl, rfl, tn_nI (by omega)⟩
theorem li_cases {m : Int32} {n : Nat} (hm : m = nI n) (hn : n ≤ 100) (x : Int32) : (∃ j, j < n ∧ x = nI j ∧ iw x 0 (m - 1) = true ∧ tn x = j) ∨ iw x 0 (m - 1) = false := by
  cases h : iw x 0 (m - 1) with
  | false => exact Or.inr rfl
  | true =>
    obtain ⟨j, hj, rfl⟩ := iw100 hm hn h
    exact Or.inl ⟨j, hj, rfl, rfl, tn_nI (by omega)⟩
theorem iw_no8 {x : Int32} (h : iw x 0 7 = false) (h1 : ¬ x < 0) (h2 : ¬ 8 ≤ x) : False := by
  obtain ⟨j, hj, rfl⟩ := nI_of h1
  have h3 : j < 8 := Nat.not_le.mp fun q => h2 (nI_le (a := 8) q hj)
  simp only [iw, decide_eq_false h1, Bool.not_false, Bool.true_and, Bool.not_eq_false', decide_eq_true_eq] at h
  exact nI_nlt (b := j) (a := 7) (by omega) (by decide) h
theorem iw_noN {x m : Int32} {n : Nat} (hm : m = nI n) (hn : n ≤ 100) (h : iw x 0 (m - 1) = false) (h1 : ¬ x < 0) (h2 : ¬ m ≤ x) : False := by
  obtain ⟨j, hj, rfl⟩ := nI_of h1
  rw [hm] at h2 h
  have h3 : j < n := Nat.not_le.mp fun q => h2 (nI_le q hj)
  obtain ⟨n, rfl⟩ : ∃ k, n = k + 1 := ⟨n - 1, by omega⟩
  rw [nI_pred] at h
  simp only [iw, decide_eq_false h1, Bool.not_false, Bool.true_and, Bool.not_eq_false', decide_eq_true_eq] at h
  exact nI_nlt (by omega) (by omega) h
theorem iwT {x lo hi : Int32} (h1 : ¬ x < lo) (h2 : x ≤ hi) : iw x lo hi = true := by
  rw [iw, decide_eq_false h1, decide_eq_false (fun q => by rw [Int32.lt_iff_toInt_lt] at q; rw [Int32.le_iff_toInt_le] at h2; omega)]
  rfl
theorem iwT2 {x lo hi : Int32} (h1 : ¬ x < lo) (h2 : ¬ hi < x) : iw x lo hi = true := by
  rw [iw, decide_eq_false h1, decide_eq_false h2]
  rfl
theorem iwF1 {x lo hi : Int32} (h1 : x < lo) : iw x lo hi = false := by
  rw [iw, decide_eq_true h1]
  rfl
theorem iwF2 {x lo hi : Int32} (h2 : ¬ x ≤ hi) : iw x lo hi = false := by
  rw [iw, decide_eq_true (show hi < x by rw [Int32.lt_iff_toInt_lt]; rw [Int32.le_iff_toInt_le] at h2; omega), Bool.not_true, Bool.and_false]
theorem iwF3 {x lo hi : Int32} (h2 : hi < x) : iw x lo hi = false := by
  rw [iw, decide_eq_true h2, Bool.not_true, Bool.and_false]
theorem sh_ok {G : ab_G} (hG : ab_GG G) {c : CS} {M D : List ab_E} (hM : M.length = 1) {j : Nat} (hj : j < 8) : ab_CM G mX11_shelfAt [.ref 0, .int (nI j)] (cH c M D) (some (.ref (26 + 2 * j))) (cH c M D) := by
  refine ab_meth (l0 := [(0, .ref 0), (1, .int (nI j))]) hG (by decide +kernel) rfl (Nat.le_of_ble_eq_true rfl) (Nat.le_refl _) (Nat.le_refl _) (fun X hX hF => ?_)
  refine ab_iload_n hX dX11_shelfAt_0 mm1 ?_
  refine ab_iflt (tgt := 22) hX dX11_shelfAt_1 (by decide) (fun h_1 => (by exact absurd h_1 (nI_pos (by omega)))) (fun h_1 => ?_)
  refine ab_iload_n hX dX11_shelfAt_4 mm1 ?_
  refine ab_aload_n hX dX11_shelfAt_5 mm0 ?_
  refine ab_getfield hX dX11_shelfAt_6 (fs_X11_18_12 rfl) cg_x rfl ?_
  refine ab_alen (v := 8) hX dX11_shelfAt_9 cg_sh (by decide) rfl ?_
  refine ab_icmpge (tgt := 22) hX dX11_shelfAt_10 (by decide) (fun h_2 => (by exact (nI_ge (b := 8) hj (by decide) h_2).elim)) (fun h_2 => ?_)
  refine ab_aload_n hX dX11_shelfAt_13 mm0 ?_
  refine ab_getfield hX dX11_shelfAt_14 (fs_X11_18_12 rfl) cg_x rfl ?_
  refine ab_iload_n hX dX11_shelfAt_17 mm1 ?_
  refine ab_aaload (v := .ref (26 + 2 * j)) hX (Or.inr rfl) dX11_shelfAt_18 cg_sh (vp_in_nI hj (by decide)) (by rw [nI_clamp (by omega)]; exact congrArg va_rf (if_pos hj)) ?_
  refine ab_goto (tgt := 23) hX dX11_shelfAt_19 (by decide) ?_
  exact ab_areturn hX hF dX11_shelfAt_23 rfl (Or.inl ⟨_, rfl⟩) (Or.inr (Or.inl ⟨_, rfl⟩)) (by rfl) (by rfl)
theorem sh_no {G : ab_G} (hG : ab_GG G) {c : CS} {M D : List ab_E} (hM : M.length = 1) {x : Int32} (hno : iw x 0 7 = false) : ab_CM G mX11_shelfAt [.ref 0, .int x] (cH c M D) (some .null) (cH c M D) := by
  refine ab_meth (l0 := [(0, .ref 0), (1, .int x)]) hG (by decide +kernel) rfl (Nat.le_of_ble_eq_true rfl) (Nat.le_refl _) (Nat.le_refl _) (fun X hX hF => ?_)
  refine ab_iload_n hX dX11_shelfAt_0 mm1 ?_
  refine ab_iflt (tgt := 22) hX dX11_shelfAt_1 (by decide) (fun h_1 => ?_) (fun h_1 => ?_)
  ·
    refine ab_null hX dX11_shelfAt_22 ?_
    exact ab_areturn hX hF dX11_shelfAt_23 rfl (Or.inl ⟨_, rfl⟩) (Or.inl rfl) (by rfl) (by rfl)
  ·
    refine ab_iload_n hX dX11_shelfAt_4 mm1 ?_
    refine ab_aload_n hX dX11_shelfAt_5 mm0 ?_
    refine ab_getfield hX dX11_shelfAt_6 (fs_X11_18_12 rfl) cg_x rfl ?_
    refine ab_alen (v := 8) hX dX11_shelfAt_9 cg_sh (by decide) rfl ?_
    refine ab_icmpge (tgt := 22) hX dX11_shelfAt_10 (by decide) (fun h_2 => ?_) (fun h_2 => (by exact (iw_no8 hno h_1 h_2).elim))
    refine ab_null hX dX11_shelfAt_22 ?_
    exact ab_areturn hX hF dX11_shelfAt_23 rfl (Or.inl ⟨_, rfl⟩) (Or.inl rfl) (by rfl) (by rfl)
theorem ck_kN {G : ab_G} {X : ab_X} {l : List (Nat × Value)} {st : List Value} {c : CS} {M D : List ab_E} {k : Nat} (hX : ab_Good G mX11_kindNumbered X) (hk : k < 8) (kk : ab_WA G mX11_kindNumbered X (23 + 3) l (.ref (kR k) :: st) (cH c M D)) : ab_WA G mX11_kindNumbered X 23 l (.ref (kR k) :: st) (cH c M D) := by
  obtain rfl | rfl | rfl | rfl | rfl | rfl | rfl | rfl : k = 0 ∨ k = 1 ∨ k = 2 ∨ k = 3 ∨ k = 4 ∨ k = 5 ∨ k = 6 ∨ k = 7 := by omega
  · exact ab_castS hX dX11_kindNumbered_23 (cH_get rfl) rfl tw_103 kk
  · exact ab_cast hX dX11_kindNumbered_23 (cH_get rfl) rfl ⟨tw_103, tw_932⟩ kk
  · exact ab_cast hX dX11_kindNumbered_23 (cH_get rfl) rfl ⟨tw_103, tw_931⟩ kk
  · exact ab_cast hX dX11_kindNumbered_23 (cH_get rfl) rfl ⟨tw_103, tw_933⟩ kk
  · exact ab_cast hX dX11_kindNumbered_23 (cH_get rfl) rfl ⟨tw_103, tw_935⟩ kk
  · exact ab_cast hX dX11_kindNumbered_23 (cH_get rfl) rfl ⟨tw_103, tw_930⟩ kk
  · exact ab_cast hX dX11_kindNumbered_23 (cH_get rfl) rfl ⟨tw_103, tw_934⟩ kk
  · exact ab_cast hX dX11_kindNumbered_23 (cH_get rfl) rfl ⟨tw_103, tw_936⟩ kk
theorem kn_ok {G : ab_G} (hG : ab_GG G) {c : CS} {M D : List ab_E} (hM : M.length = 1) {k : Nat} (hk : k < 8) : ab_CM G mX11_kindNumbered [.ref 0, .int (nI k)] (cH c M D) (some (.ref (kR k))) (cH c M D) := by
  refine ab_meth (l0 := [(0, .ref 0), (1, .int (nI k))]) hG (by decide +kernel) rfl (Nat.le_of_ble_eq_true rfl) (Nat.le_refl _) (Nat.le_refl _) (fun X hX hF => ?_)
  refine ab_iload_n hX dX11_kindNumbered_0 mm1 ?_
  refine ab_iflt (tgt := 29) hX dX11_kindNumbered_1 (by decide) (fun h_1 => (by exact absurd h_1 (nI_pos (by omega)))) (fun h_1 => ?_)
  refine ab_iload_n hX dX11_kindNumbered_4 mm1 ?_
  refine ab_aload_n hX dX11_kindNumbered_5 mm0 ?_
  refine ab_getfield hX dX11_kindNumbered_6 (fs_X11_12_12 rfl) cg_x rfl ?_
  refine ab_callV0r hX dX11_kindNumbered_9 cg_ks ss_X11_kindNumbered_163 (cm_Jx4a65c_size_8abf5 hG cg_ks) (Nat.le_of_ble_eq_true rfl) ?_
  refine ab_icmpge (tgt := 29) hX dX11_kindNumbered_12 (by decide) (fun h_2 => (by exact (nI_ge (b := 8) hk (by decide) h_2).elim)) (fun h_2 => ?_)
  refine ab_aload_n hX dX11_kindNumbered_15 mm0 ?_
  refine ab_getfield hX dX11_kindNumbered_16 (fs_X11_12_12 rfl) cg_x rfl ?_
  refine ab_iload_n hX dX11_kindNumbered_19 mm1 ?_
  refine ab_callV1r hX dX11_kindNumbered_20 cg_ks ss_X11_kindNumbered_221 (cm_Jx4a65c_get_915e3 hG cg_ks cg_ka (k := k) (r := kR k) (N := 8) rfl rfl hk (by decide) (if_pos hk)) (Nat.le_of_ble_eq_true rfl) ?_
  refine ck_kN hX hk ?_
  refine ab_goto (tgt := 30) hX dX11_kindNumbered_26 (by decide) ?_
  exact ab_areturn hX hF dX11_kindNumbered_30 rfl (Or.inl ⟨_, rfl⟩) (Or.inr (Or.inl ⟨_, rfl⟩)) (by rfl) (by rfl)
theorem kn_no {G : ab_G} (hG : ab_GG G) {c : CS} {M D : List ab_E} (hM : M.length = 1) {x : Int32} (hno : iw x 0 7 = false) : ab_CM G mX11_kindNumbered [.ref 0, .int x] (cH c M D) (some .null) (cH c M D) := by
  refine ab_meth (l0 := [(0, .ref 0), (1, .int x)]) hG (by decide +kernel) rfl (Nat.le_of_ble_eq_true rfl) (Nat.le_refl _) (Nat.le_refl _) (fun X hX hF => ?_)
  refine ab_iload_n hX dX11_kindNumbered_0 mm1 ?_
  refine ab_iflt (tgt := 29) hX dX11_kindNumbered_1 (by decide) (fun h_1 => ?_) (fun h_1 => ?_)
  ·
    refine ab_null hX dX11_kindNumbered_29 ?_
    exact ab_areturn hX hF dX11_kindNumbered_30 rfl (Or.inl ⟨_, rfl⟩) (Or.inl rfl) (by rfl) (by rfl)
  ·
    refine ab_iload_n hX dX11_kindNumbered_4 mm1 ?_
    refine ab_aload_n hX dX11_kindNumbered_5 mm0 ?_
    refine ab_getfield hX dX11_kindNumbered_6 (fs_X11_12_12 rfl) cg_x rfl ?_
    refine ab_callV0r hX dX11_kindNumbered_9 cg_ks ss_X11_kindNumbered_163 (cm_Jx4a65c_size_8abf5 hG cg_ks) (Nat.le_of_ble_eq_true rfl) ?_
    refine ab_icmpge (tgt := 29) hX dX11_kindNumbered_12 (by decide) (fun h_2 => ?_) (fun h_2 => (by exact (iw_no8 hno h_1 h_2).elim))
    refine ab_null hX dX11_kindNumbered_29 ?_
    exact ab_areturn hX hF dX11_kindNumbered_30 rfl (Or.inl ⟨_, rfl⟩) (Or.inl rfl) (by rfl) (by rfl)
theorem si_raw {G : ab_G} (hG : ab_GG G) {c : CS} {M D : List ab_E} (hM : M.length = 1) {l n i r : Nat} {q : Nat → SY} (hl : l < 6) (hL : cL c D l n q) (hi : i < n) (hr : D[r]? = some (.inr (8, syF (q i)))) (hcr : ab_CM G mJx4a65c_get_915e3 [.ref (alR l), .int (nI i)] (cH c M D) (some (.ref (43 + r))) (cH c M D)) : ab_CM G mX11_sayingIn [.ref (alR l), .int (nI i)] (cH c M D) (some (.ref (43 + r))) (cH c M D) := by
  refine ab_meth (l0 := [(0, .ref (alR l)), (1, .int (nI i))]) hG (by decide +kernel) rfl (Nat.le_of_ble_eq_true rfl) (Nat.le_refl _) (Nat.le_refl _) (fun X hX hF => ?_)
  have h10 := hL.2.1
  refine ab_iload_n hX dX11_sayingIn_0 mm1 ?_
  refine ab_iflt (tgt := 23) hX dX11_sayingIn_1 (by decide) (fun h_1 => (by exact absurd h_1 (nI_pos (by omega)))) (fun h_1 => ?_)
  refine ab_iload_n hX dX11_sayingIn_4 mm1 ?_
  refine ab_aload_n hX dX11_sayingIn_5 mm0 ?_
  refine ab_callV0r hX dX11_sayingIn_6 (cg_al hl) ss_X11_sayingIn_163 (cm_Jx4a65c_size_8abf5 hG (cg_al hl)) (Nat.le_of_ble_eq_true rfl) ?_
  refine ab_icmpge (tgt := 23) hX dX11_sayingIn_9 (by decide) (fun h_2 => (by rw [hL.1] at h_2; exact (nI_ge hi (by omega) h_2).elim)) (fun h_2 => ?_)
  refine ab_aload_n hX dX11_sayingIn_12 mm0 ?_
  refine ab_iload_n hX dX11_sayingIn_13 mm1 ?_
  refine ab_callV1r hX dX11_sayingIn_14 (cg_al hl) ss_X11_sayingIn_221 hcr (Nat.le_of_ble_eq_true rfl) ?_
  refine ab_castS hX dX11_sayingIn_17 (cD_get hM hr) rfl tw_359 ?_
  refine ab_goto (tgt := 24) hX dX11_sayingIn_20 (by decide) ?_
  exact ab_areturn hX hF dX11_sayingIn_24 rfl (Or.inl ⟨_, rfl⟩) (Or.inr (Or.inl ⟨_, rfl⟩)) (by rfl) (by rfl)
theorem si_no {G : ab_G} (hG : ab_GG G) {c : CS} {M D : List ab_E} (hM : M.length = 1) {l n : Nat} {q : Nat → SY} (hl : l < 6) (hL : cL c D l n q) {x : Int32} (hno : iw x 0 (c.1 (30 + l) - 1) = false) : ab_CM G mX11_sayingIn [.ref (alR l), .int x] (cH c M D) (some .null) (cH c M D) := by
  refine ab_meth (l0 := [(0, .ref (alR l)), (1, .int x)]) hG (by decide +kernel) rfl (Nat.le_of_ble_eq_true rfl) (Nat.le_refl _) (Nat.le_refl _) (fun X hX hF => ?_)
  have h10 := hL.2.1
  refine ab_iload_n hX dX11_sayingIn_0 mm1 ?_
  refine ab_iflt (tgt := 23) hX dX11_sayingIn_1 (by decide) (fun h_1 => ?_) (fun h_1 => ?_)
  ·
    refine ab_null hX dX11_sayingIn_23 ?_
    exact ab_areturn hX hF dX11_sayingIn_24 rfl (Or.inl ⟨_, rfl⟩) (Or.inl rfl) (by rfl) (by rfl)
  ·
    refine ab_iload_n hX dX11_sayingIn_4 mm1 ?_
    refine ab_aload_n hX dX11_sayingIn_5 mm0 ?_
    refine ab_callV0r hX dX11_sayingIn_6 (cg_al hl) ss_X11_sayingIn_163 (cm_Jx4a65c_size_8abf5 hG (cg_al hl)) (Nat.le_of_ble_eq_true rfl) ?_
    refine ab_icmpge (tgt := 23) hX dX11_sayingIn_9 (by decide) (fun h_2 => ?_) (fun h_2 => (by exact (iw_noN hL.1 (by omega) hno h_1 h_2).elim))
    refine ab_null hX dX11_sayingIn_23 ?_
    exact ab_areturn hX hF dX11_sayingIn_24 rfl (Or.inl ⟨_, rfl⟩) (Or.inl rfl) (by rfl) (by rfl)
theorem si_ok {G : ab_G} (hG : ab_GG G) {c : CS} {M D : List ab_E} (hM : M.length = 1) {l n i : Nat} {q : Nat → SY} (hl : l < 6) (hL : cL c D l n q) (hi : i < n) : ∃ r, D[r]? = some (.inr (8, syF (q i))) ∧ ab_CM G mX11_sayingIn [.ref (alR l), .int (nI i)] (cH c M D) (some (.ref (43 + r))) (cH c M D) := by
  obtain ⟨r, h1, h2⟩ := cL_read hG hM hl hL hi
  exact ⟨r, h1, si_raw hG hM hl hL hi h1 h2⟩
def lawC (c : CS) (ql : Nat → SY) (k what : Int32) : Int32 := if iw k 0 (c.1 (30 + 2 * 0) - 1) = true then (if iw what 0 5 = true then tdY (ql (tn k)) what else -1) else -1
def saidC (c : CS) (qs : Nat → SY) (k what : Int32) : Int32 := if iw k 0 (c.1 (30 + (2 * 0 + 1)) - 1) = true then (if iw what 0 7 = true then (if what = 7 then bi (hwB (wY (qs (tn k))) (c.1 (20 + 0))) else if what = 6 then (qs (tn k)).1 else tdY (qs (tn k)) what) else -1) else -1
def knowC (c : CS) (w : Int32) : Int32 := if hwT c 0 w = true then kbT c 0 w else -1
def skc (c : CS) (j : Nat) : Nat := match c.2.2.2 (10 + j) with
  | .ref r => if r = 17 then 0 else r - 18
  | _ => 0
theorem skc_k {c : CS} {j k : Nat} (h : c.2.2.2 (10 + j) = .ref (kR k)) : skc c j = k := by
  unfold skc
  rw [h]
  show (if kR k = 17 then 0 else kR k - 18) = k
  unfold kR
  by_cases q : k = 0
  · rw [if_pos q]; exact q.symm
  · rw [if_neg q, if_neg (by omega)]; omega
def shW (c : CS) (j : Nat) (a b : Int32) : Int64 := wS (skc c j) (c.1 (60 + j)) a b
def trueC (c : CS) (d a b w : Int32) : Int32 := if iw d 0 7 = true then (if inB a 6 = true then (if inB b 6 = true then (if inB w 64 = true then (if rfU c (tn d) 1 = 0 then bi (hwB (shW c (tn d) a b) w) else rfU c (tn d) 1) else -1) else -1) else -1) else -1
def noL : Int64 := refL (-1)
def wldC (ql : Nat → SY) (nl : Nat) (qs : Nat → SY) (ns : Nat) (what : Int32) : Int64 := if eoB what = true then (if what = 0 then mbT ql nl else lfT ql nl qs ns) else noL
def manyC (ql : Nat → SY) (nl : Nat) (qs : Nat → SY) (ns : Nat) (what : Int32) : Int32 := if eoB what = true then lbc (if what = 0 then mbT ql nl else lfT ql nl qs ns) else -1
def provC (ql : Nat → SY) (nl : Nat) (qs : Nat → SY) (ns : Nat) (what : Int32) : Int32 := if eoB what = true then (if what = 0 then faI (lfT ql nl qs ns) else fnI (lfT ql nl qs ns)) else -1
def slipC (qs : Nat → SY) (ns : Nat) (t : Int32) (what : Int32) : Int32 := if eoB what = true then (if what = 0 then toT qs ns t else if toT qs ns t = 0 then -4 else ntz (toT qs ns t)) else -1
def aloneC (c : CS) (ql : Nat → SY) (nl : Nat) (qs : Nat → SY) (k : Int32) : Int32 := if iw k 0 (c.1 (30 + (2 * 0 + 1)) - 1) = true then lbc (mbT ql nl &&& (wY (qs (tn k)) ^^^ (-1))) else -1
def clQ (ql : Nat → SY) (nl : Nat) (qs : Nat → SY) (i j : Nat) : Bool := !decide (mbT ql nl &&& (wY (qs i) ^^^ (-1)) = 0) && (!decide (mbT ql nl &&& (wY (qs j) ^^^ (-1)) = 0) && decide ((mbT ql nl &&& (wY (qs i) ^^^ (-1))) &&& (mbT ql nl &&& (wY (qs j) ^^^ (-1))) = 0))
def prG (qs : Nat → SY) (ns : Nat) (mb : Int64) (fact : Int32) (i : Nat) (p : Int32 × Int32) : Int32 × Int32 := if p.2 ≤ ibc (nI i) then p else if ipB (lbT qs ns mb (nI i)) fact = true then (nI i, ibc (nI i)) else p
def proofC (ql : Nat → SY) (nl : Nat) (qs : Nat → SY) (ns : Nat) (fact : Int32) : Int32 := if inB fact 6 = true then (acc (prG qs ns (mbT ql nl) fact) (-4, 11) (2 ^ ns)).1 else -1
def slG (qs : Nat → SY) (ns : Nat) (mb : Int64) (i : Nat) (p : Int32 × Int32) : Int32 × Int32 := if hwB mb (nI i) = true then (if ibc (toT qs ns (nI i)) < p.2 then (toT qs ns (nI i), ibc (toT qs ns (nI i))) else if ibc (toT qs ns (nI i)) = p.2 then (if p.1 ≤ toT qs ns (nI i) then p else (toT qs ns (nI i), ibc (toT qs ns (nI i)))) else p) else p
def slippedC (ql : Nat → SY) (nl : Nat) (qs : Nat → SY) (ns : Nat) : Int32 := (acc (slG qs ns (mbT ql nl)) (-4, 11) 64).1
def akG (lf : Int64) (f : Nat) (p : Int32 × Int32) : Int32 × Int32 := if minI (lbc (lf &&& wW (nI f))) (lbc lf - lbc (lf &&& wW (nI f))) ≤ p.2 then p else (nI f, minI (lbc (lf &&& wW (nI f))) (lbc lf - lbc (lf &&& wW (nI f))))
def askC (ql : Nat → SY) (nl : Nat) (qs : Nat → SY) (ns : Nat) : Int32 := if lfT ql nl qs ns = 0 then -4 else (acc (akG (lfT ql nl qs ns)) (-4, -1) 6).1
def plG (ql : Nat → SY) (nl : Nat) (qs : Nat → SY) (ns : Nat) (i : Nat) (p : Int32 × Int32) : Int32 × Int32 := if p.2 ≤ ibc (nI i) then p else if ipT ql nl qs ns (nI i) = true then (nI i, ibc (nI i)) else p
def plainC (ql : Nat → SY) (nl : Nat) (qs : Nat → SY) (ns nw : Nat) : Int32 := (acc (plG ql nl qs ns) (-4, 6) (2 ^ nw)).1
def doG (set : Int32) (w : Nat) (b : Int32) : Int32 := if (set >>> (nI w &&& 31)) &&& 1 = 0 then b else 10 * b + nI w
def dwC (nw : Nat) (set : Int32) : Int32 := acc (doG (set ^^^ (-1))) (acc (doG set) 0 nw) nw
def loG (ql : Nat → SY) (nl : Nat) (qs : Nat → SY) (ns nw : Nat) (fewest : Int32) (i : Nat) (b : Int32) : Int32 := if ibc (nI i) = fewest then (if ipT ql nl qs ns (nI i) = true then (if b = -4 then dwC nw (nI i) else minI b (dwC nw (nI i))) else b) else b
def leastC (ql : Nat → SY) (nl : Nat) (qs : Nat → SY) (ns nw : Nat) (fewest : Int32) : Int32 := acc (loG ql nl qs ns nw fewest) (-4) (2 ^ nw)
def orderC (c : CS) (ql : Nat → SY) (nl : Nat) (qs : Nat → SY) (ns nw : Nat) (what : Int32) : Int32 := if eoB what = true then (if c.1 (10 + 0) = 0 then -3 else if plainC ql nl qs ns nw = -4 then -4 else if what = 0 then ibc (plainC ql nl qs ns nw) else leastC ql nl qs ns nw (ibc (plainC ql nl qs ns nw))) else -1
def withC (c : CS) (ql : Nat → SY) (nl : Nat) (qs : Nat → SY) (ns : Nat) (w : Int32) : Int32 := if hwT c 0 w = true then lbc (ltT ql nl qs ns ((1 : Int32) <<< (w &&& 31) ^^^ (-1))) - lbc (lfT ql nl qs ns) else -1
def tellsC (c : CS) (lf : Int64) (d a b : Int32) : Int32 := if iw d 0 7 = true then (if inB a 6 = true then (if inB b 6 = true then (if rfU c (tn d) 1 = 0 then lbc (lf &&& shW c (tn d) a b) else rfU c (tn d) 1) else -1) else -1) else -1
def vdG (qs : Nat → SY) (i : Nat) (b : Int32) : Int32 := b &&& (fcY (qs i) ^^^ (-1))
def certC (c : CS) (lf : Int64) (w : Int32) : Int32 := if hwT c 0 w = true then faI (lkI lf (c.1 (20 + 0)) (kbT c 0 w)) ||| fnI (lkI lf (c.1 (20 + 0)) (kbT c 0 w)) else -1
def koG (c : CS) (lf th : Int64) (other : Int32) (i : Nat) (b : Int32) : Int32 := if hwB th (nI i) = true then b &&& (faI (lkI lf (nI i) (kbT c 0 other)) ||| fnI (lkI lf (nI i) (kbT c 0 other))) else b
def knofC (c : CS) (lf : Int64) (one other : Int32) : Int32 := if hwT c 0 one = true then (if hwT c 0 other = true then acc (koG c lf (lkI lf (c.1 (20 + 0)) (kbT c 0 one)) other) 63 64 else -1) else -1
def alG (c : CS) (nw : Nat) (lf : Int64) (_ : Nat) (r : Int64) : Int64 := rcT c 0 nw r lf
def alkC (c : CS) (nw : Nat) (lf : Int64) (n : Int32) : Int32 := if iw n 0 5 = true then (if c.1 (10 + 0) = 0 then -3 else faI (acc (alG c nw lf) ((1 : Int64) <<< ((c.1 (20 + 0)).toInt64 &&& 63)) (tn n + 1)) ||| fnI (acc (alG c nw lf) ((1 : Int64) <<< ((c.1 (20 + 0)).toInt64 &&& 63)) (tn n + 1))) else -1
def cntC (c : CS) (ql : Nat → SY) (nl : Nat) (qs : Nat → SY) (ns : Nat) (what : Int32) : Int32 := if what = 0 then c.1 (30 + 2 * 0) else if what = 1 then c.1 (10 + 0) else if what = 2 then c.1 (30 + (2 * 0 + 1)) else if what = 3 then c.1 (20 + 0) else if what = 4 then acc (wsG qs) 0 ns else if what = 5 then bi (hwB (mbT ql nl) (c.1 (20 + 0))) else if what = 6 then bi (hwB (lfT ql nl qs ns) (c.1 (20 + 0))) else -1
def coC (c : CS) (d : Int32) : Int32 := if iw d 0 7 = true then (if rfU c (tn d) 1 = 0 then prV (skc c (tn d)) (c.1 (60 + tn d)) else rfU c (tn d) 1) else -1
theorem cm_X11_law {G : ab_G} (hG : ab_GG G) {c : CS} {M D : List ab_E} (hM : M.length = 1) {k : Int32} {what : Int32} {nl : Nat} {ql : Nat → SY} (hL0 : cL c D (2 * 0) nl ql)  : ab_CM G mX11_law [.ref 0, .int k, .int what] (cH c M D) (some (.int (lawC c ql k what))) (cH c M D) := by
  refine ab_meth (l0 := [(0, .ref 0), (1, .int k), (2, .int what)]) hG (by decide +kernel) rfl (Nat.le_of_ble_eq_true rfl) (Nat.le_refl _) (Nat.le_refl _) (fun X hX hF => ?_)
  have h10 := hL0.2.1
  refine ab_aload_n hX dX11_law_0 mm0 ?_
  refine ab_getfield hX dX11_law_1 (fs_X11_25_12 rfl) cg_x rfl ?_
  refine ab_getfield hX dX11_law_4 (fs_X11_94_11 rfl) (cg_tr (show 0 < 3 by decide)) rfl ?_
  refine ab_iload_n hX dX11_law_7 mm1 ?_
  rcases li_cases hL0.1 (by omega) k with ⟨i, hi, rfl, hinc, ic⟩ | hno
  ·
    obtain ⟨r_, hr_, hc_⟩ := si_ok hG hM (show 2 * 0 < 6 by decide) hL0 hi
    refine ab_callS2r hX dX11_law_8 ss_X11_law_97 hc_ (Nat.le_of_ble_eq_true rfl) ?_
    refine ab_astore_n hX dX11_law_11 rfl (by decide) rfl ?_
    refine ab_aload_n hX dX11_law_12 mm0 ?_
    refine ab_ifnull hX dX11_law_13 ?_
    refine ab_iload_n hX dX11_law_16 mm3 ?_
    refine ab_iflt (tgt := 25) hX dX11_law_17 (by decide) (fun h_1 => ?_) (fun h_1 => ?_)
    ·
      have hwc := iwF1 (hi := 5) h_1
      refine ab_iconst (v := (-1)) hX dX11_law_25 (by decide) ?_
      exact ab_ireturn hX hF dX11_law_26 rfl (by rfl) (congrArg some (congrArg Value.int (by first | rfl | (simp only [lawC, hinc, ic, h_1, hwc, ↓reduceIte, Bool.false_eq_true]; done) | (simp only [lawC, hinc, ic, h_1, hwc, ↓reduceIte, Bool.false_eq_true]; rfl) | (unfold lawC; (repeat' split) <;> first | rfl | contradiction | (simp_all; done))))) (by rfl)
    ·
      refine ab_iload_n hX dX11_law_20 mm3 ?_
      refine ab_iconst (v := 5) hX dX11_law_21 (by decide) ?_
      refine ab_icmple (tgt := 27) hX dX11_law_22 (by decide) (fun h_2 => ?_) (fun h_2 => ?_)
      ·
        have hwc := iwT ‹¬ what < 0› h_2
        refine ab_aload_n hX dX11_law_27 mm0 ?_
        refine ab_iload_n hX dX11_law_28 mm3 ?_
        refine ab_callV1r hX dX11_law_29 (cD_get hM hr_) ss_X11_law_101 (cm_X7_told hG hM (cD_get hM hr_) (hL0.2.2.2 _ hi)) (Nat.le_of_ble_eq_true rfl) ?_
        exact ab_ireturn hX hF dX11_law_32 rfl (by rfl) (congrArg some (congrArg Value.int (by first | rfl | (simp only [lawC, hinc, ic, h_1, h_2, hwc, ↓reduceIte, Bool.false_eq_true]; done) | (simp only [lawC, hinc, ic, h_1, h_2, hwc, ↓reduceIte, Bool.false_eq_true]; rfl) | (unfold lawC; (repeat' split) <;> first | rfl | contradiction | (simp_all; done))))) (by rfl)
      ·
        have hwc := iwF2 (lo := 0) h_2
        refine ab_iconst (v := (-1)) hX dX11_law_25 (by decide) ?_
        exact ab_ireturn hX hF dX11_law_26 rfl (by rfl) (congrArg some (congrArg Value.int (by first | rfl | (simp only [lawC, hinc, ic, h_1, h_2, hwc, ↓reduceIte, Bool.false_eq_true]; done) | (simp only [lawC, hinc, ic, h_1, h_2, hwc, ↓reduceIte, Bool.false_eq_true]; rfl) | (unfold lawC; (repeat' split) <;> first | rfl | contradiction | (simp_all; done))))) (by rfl)
  ·
    refine ab_callS2r hX dX11_law_8 ss_X11_law_97 (si_no hG hM (show 2 * 0 < 6 by decide) hL0 hno) (Nat.le_of_ble_eq_true rfl) ?_
    refine ab_astore_nN hX dX11_law_11 rfl (by decide) rfl ?_
    refine ab_aload_nN hX dX11_law_12 mm0 ?_
    refine ab_ifnullN (tgt := 25) hX dX11_law_13 (by decide) ?_
    refine ab_iconst (v := (-1)) hX dX11_law_25 (by decide) ?_
    exact ab_ireturn hX hF dX11_law_26 rfl (by rfl) (congrArg some (congrArg Value.int (by first | rfl | (simp only [lawC, hno, ↓reduceIte, Bool.false_eq_true]; done) | (simp only [lawC, hno, ↓reduceIte, Bool.false_eq_true]; rfl) | (unfold lawC; (repeat' split) <;> first | rfl | contradiction | (simp_all; done))))) (by rfl)
theorem cm_X11_said {G : ab_G} (hG : ab_GG G) {c : CS} {M D : List ab_E} (hM : M.length = 1) {k : Int32} {what : Int32} {ns : Nat} {qs : Nat → SY} (hL1 : cL c D (2 * 0 + 1) ns qs)  : ab_CM G mX11_said [.ref 0, .int k, .int what] (cH c M D) (some (.int (saidC c qs k what))) (cH c M D) := by
  refine ab_meth (l0 := [(0, .ref 0), (1, .int k), (2, .int what)]) hG (by decide +kernel) rfl (Nat.le_of_ble_eq_true rfl) (Nat.le_refl _) (Nat.le_refl _) (fun X hX hF => ?_)
  have h11 := hL1.2.1
  refine ab_aload_n hX dX11_said_0 mm0 ?_
  refine ab_getfield hX dX11_said_1 (fs_X11_25_12 rfl) cg_x rfl ?_
  refine ab_getfield hX dX11_said_4 (fs_X11_107_11 rfl) (cg_tr (show 0 < 3 by decide)) rfl ?_
  refine ab_iload_n hX dX11_said_7 mm1 ?_
  rcases li_cases hL1.1 (by omega) k with ⟨i, hi, rfl, hinc, ic⟩ | hno
  ·
    obtain ⟨r_, hr_, hc_⟩ := si_ok hG hM (show 2 * 0 + 1 < 6 by decide) hL1 hi
    refine ab_callS2r hX dX11_said_8 ss_X11_said_97 hc_ (Nat.le_of_ble_eq_true rfl) ?_
    refine ab_astore_n hX dX11_said_11 rfl (by decide) rfl ?_
    refine ab_aload_n hX dX11_said_12 mm0 ?_
    refine ab_ifnull hX dX11_said_13 ?_
    refine ab_iload_n hX dX11_said_16 mm3 ?_
    refine ab_iflt (tgt := 26) hX dX11_said_17 (by decide) (fun h_1 => ?_) (fun h_1 => ?_)
    ·
      have hwc := iwF1 (hi := 7) h_1
      refine ab_iconst (v := (-1)) hX dX11_said_26 (by decide) ?_
      exact ab_ireturn hX hF dX11_said_27 rfl (by rfl) (congrArg some (congrArg Value.int (by first | rfl | (simp only [saidC, hinc, ic, h_1, hwc, ↓reduceIte, Bool.false_eq_true]; done) | (simp only [saidC, hinc, ic, h_1, hwc, ↓reduceIte, Bool.false_eq_true]; rfl) | (unfold saidC; (repeat' split) <;> first | rfl | contradiction | (simp_all; done))))) (by rfl)
    ·
      refine ab_iload_n hX dX11_said_20 mm3 ?_
      refine ab_bipush (v := 7) hX dX11_said_21 (by decide) ?_
      refine ab_icmple (tgt := 28) hX dX11_said_23 (by decide) (fun h_2 => ?_) (fun h_2 => ?_)
      ·
        have hwc := iwT ‹¬ what < 0› h_2
        refine ab_iload_n hX dX11_said_28 mm3 ?_
        refine ab_bipush (v := 7) hX dX11_said_29 (by decide) ?_
        refine ab_icmpne (tgt := 52) hX dX11_said_31 (by decide) (fun h_3 => ?_) (fun h_3 => ?_)
        ·
          refine ab_iload_n hX dX11_said_52 mm3 ?_
          refine ab_bipush (v := 6) hX dX11_said_53 (by decide) ?_
          refine ab_icmpne (tgt := 65) hX dX11_said_55 (by decide) (fun h_4 => ?_) (fun h_4 => ?_)
          ·
            refine ab_aload_n hX dX11_said_65 mm0 ?_
            refine ab_iload_n hX dX11_said_66 mm3 ?_
            refine ab_callV1r hX dX11_said_67 (cD_get hM hr_) ss_X11_said_101 (cm_X7_told hG hM (cD_get hM hr_) (hL1.2.2.2 _ hi)) (Nat.le_of_ble_eq_true rfl) ?_
            exact ab_ireturn hX hF dX11_said_70 rfl (by rfl) (congrArg some (congrArg Value.int (by first | rfl | (simp only [saidC, hinc, ic, h_1, h_2, hwc, h_3, h_4, ↓reduceIte, Bool.false_eq_true]; done) | (simp only [saidC, hinc, ic, h_1, h_2, hwc, h_3, h_4, ↓reduceIte, Bool.false_eq_true]; rfl) | (unfold saidC; (repeat' split) <;> first | rfl | contradiction | (simp_all; done))))) (by rfl)
          ·
            refine ab_aload_n hX dX11_said_58 mm0 ?_
            refine ab_getfield hX dX11_said_59 (fs_X11_125_8 rfl) (cD_get hM hr_) rfl ?_
            refine ab_goto (tgt := 70) hX dX11_said_62 (by decide) ?_
            exact ab_ireturn hX hF dX11_said_70 rfl (by rfl) (congrArg some (congrArg Value.int (by first | rfl | (simp only [saidC, hinc, ic, h_1, h_2, hwc, h_3, h_4, ↓reduceIte, Bool.false_eq_true]; done) | (simp only [saidC, hinc, ic, h_1, h_2, hwc, h_3, h_4, ↓reduceIte, Bool.false_eq_true]; rfl) | (unfold saidC; (repeat' split) <;> first | rfl | contradiction | (simp_all; done))))) (by rfl)
        ·
          refine ab_aload_n hX dX11_said_34 mm0 ?_
          refine ab_getfield hX dX11_said_35 (fs_X11_110_8 rfl) (cD_get hM hr_) rfl ?_
          refine ab_aload_n hX dX11_said_38 mm1 ?_
          refine ab_getfield hX dX11_said_39 (fs_X11_25_12 rfl) cg_x rfl ?_
          refine ab_getfield hX dX11_said_42 (fs_X11_114_11 rfl) (cg_tr (show 0 < 3 by decide)) rfl ?_
          refine ab_callS2r hX dX11_said_45 ss_X11_said_117 (cm_X11_hasWorld hG) (Nat.le_of_ble_eq_true rfl) ?_
          refine ab_callS1r hX dX11_said_48 ss_X11_said_121 (cm_X11_oneIf hG) (Nat.le_of_ble_eq_true rfl) ?_
          exact ab_ireturn hX hF dX11_said_51 rfl (by rfl) (congrArg some (congrArg Value.int (by first | rfl | (simp only [saidC, hinc, ic, h_1, h_2, hwc, h_3, ↓reduceIte, Bool.false_eq_true]; done) | (simp only [saidC, hinc, ic, h_1, h_2, hwc, h_3, ↓reduceIte, Bool.false_eq_true]; rfl) | (unfold saidC; (repeat' split) <;> first | rfl | contradiction | (simp_all; done))))) (by rfl)
      ·
        have hwc := iwF2 (lo := 0) h_2
        refine ab_iconst (v := (-1)) hX dX11_said_26 (by decide) ?_
        exact ab_ireturn hX hF dX11_said_27 rfl (by rfl) (congrArg some (congrArg Value.int (by first | rfl | (simp only [saidC, hinc, ic, h_1, h_2, hwc, ↓reduceIte, Bool.false_eq_true]; done) | (simp only [saidC, hinc, ic, h_1, h_2, hwc, ↓reduceIte, Bool.false_eq_true]; rfl) | (unfold saidC; (repeat' split) <;> first | rfl | contradiction | (simp_all; done))))) (by rfl)
  ·
    refine ab_callS2r hX dX11_said_8 ss_X11_said_97 (si_no hG hM (show 2 * 0 + 1 < 6 by decide) hL1 hno) (Nat.le_of_ble_eq_true rfl) ?_
    refine ab_astore_nN hX dX11_said_11 rfl (by decide) rfl ?_
    refine ab_aload_nN hX dX11_said_12 mm0 ?_
    refine ab_ifnullN (tgt := 26) hX dX11_said_13 (by decide) ?_
    refine ab_iconst (v := (-1)) hX dX11_said_26 (by decide) ?_
    exact ab_ireturn hX hF dX11_said_27 rfl (by rfl) (congrArg some (congrArg Value.int (by first | rfl | (simp only [saidC, hno, ↓reduceIte, Bool.false_eq_true]; done) | (simp only [saidC, hno, ↓reduceIte, Bool.false_eq_true]; rfl) | (unfold saidC; (repeat' split) <;> first | rfl | contradiction | (simp_all; done))))) (by rfl)
theorem cm_X11_knows {G : ab_G} (hG : ab_GG G) {c : CS} {M D : List ab_E} (hM : M.length = 1) {w : Int32}   : ab_CM G mX11_knows [.ref 0, .int w] (cH c M D) (some (.int (knowC c w))) (cH c M D) := by
  refine ab_meth (l0 := [(0, .ref 0), (1, .int w)]) hG (by decide +kernel) rfl (Nat.le_of_ble_eq_true rfl) (Nat.le_refl _) (Nat.le_refl _) (fun X hX hF => ?_)
  refine ab_aload_n hX dX11_knows_0 mm0 ?_
  refine ab_getfield hX dX11_knows_1 (fs_X11_25_12 rfl) cg_x rfl ?_
  refine ab_iload_n hX dX11_knows_4 mm1 ?_
  refine ab_callV1r hX dX11_knows_5 (cg_tr (show 0 < 3 by decide)) ss_X11_knows_128 (cm_X10_hasWitness hG hM (show 0 < 3 by decide)) (Nat.le_of_ble_eq_true rfl) ?_
  refine ab_ifeqB (tgt := 22) hX dX11_knows_8 (by decide) (fun h_1 => ?_) (fun h_1 => ?_)
  ·
    refine ab_iconst (v := (-1)) hX dX11_knows_22 (by decide) ?_
    exact ab_ireturn hX hF dX11_knows_23 rfl (by rfl) (congrArg some (congrArg Value.int (by first | rfl | (simp only [knowC, h_1, ↓reduceIte, Bool.false_eq_true]; done) | (simp only [knowC, h_1, ↓reduceIte, Bool.false_eq_true]; rfl) | (unfold knowC; (repeat' split) <;> first | rfl | contradiction | (simp_all; done))))) (by rfl)
  ·
    refine ab_aload_n hX dX11_knows_11 mm0 ?_
    refine ab_getfield hX dX11_knows_12 (fs_X11_25_12 rfl) cg_x rfl ?_
    refine ab_iload_n hX dX11_knows_15 mm1 ?_
    refine ab_callV1r hX dX11_knows_16 (cg_tr (show 0 < 3 by decide)) ss_X11_knows_132 (cm_X10_knownBy hG hM (show 0 < 3 by decide)) (Nat.le_of_ble_eq_true rfl) ?_
    refine ab_goto (tgt := 23) hX dX11_knows_19 (by decide) ?_
    exact ab_ireturn hX hF dX11_knows_23 rfl (by rfl) (congrArg some (congrArg Value.int (by first | rfl | (simp only [knowC, h_1, ↓reduceIte, Bool.false_eq_true]; done) | (simp only [knowC, h_1, ↓reduceIte, Bool.false_eq_true]; rfl) | (unfold knowC; (repeat' split) <;> first | rfl | contradiction | (simp_all; done))))) (by rfl)
theorem cm_X11_worlds {G : ab_G} (hG : ab_GG G) {c : CS} {M D : List ab_E} (hM : M.length = 1) {what : Int32} {nl : Nat} {ql : Nat → SY} (hL0 : cL c D (2 * 0) nl ql) {ns : Nat} {qs : Nat → SY} (hL1 : cL c D (2 * 0 + 1) ns qs)  : ab_CM G mX11_worlds [.ref 0, .int what] (cH c M D) (some (.long (wldC ql nl qs ns what))) (cH c M D) := by
  refine ab_meth (l0 := [(0, .ref 0), (1, .int what)]) hG (by decide +kernel) rfl (Nat.le_of_ble_eq_true rfl) (Nat.le_refl _) (Nat.le_refl _) (fun X hX hF => ?_)
  have h10 := hL0.2.1
  have h11 := hL1.2.1
  refine ab_iload_n hX dX11_worlds_0 mm1 ?_
  refine ab_callS1r hX dX11_worlds_1 ss_X11_worlds_182 (cm_X11_isEitherOr hG) (Nat.le_of_ble_eq_true rfl) ?_
  refine ab_ifeqB (tgt := 18) hX dX11_worlds_4 (by decide) (fun h_1 => ?_) (fun h_1 => ?_)
  ·
    refine ab_iconst (v := (-1)) hX dX11_worlds_18 (by decide) ?_
    refine ab_callS1r hX dX11_worlds_19 ss_X11_worlds_189 (cm_X11_refusedLong hG) (Nat.le_of_ble_eq_true rfl) ?_
    exact ab_lreturn hX hF dX11_worlds_22 rfl (congrArg some (congrArg Value.long (by first | rfl | (simp only [wldC, h_1, ↓reduceIte, Bool.false_eq_true]; done) | (simp only [wldC, h_1, ↓reduceIte, Bool.false_eq_true]; rfl) | (unfold wldC; (repeat' split) <;> first | rfl | contradiction | (simp_all; done))))) (by rfl)
  ·
    refine ab_aload_n hX dX11_worlds_7 mm0 ?_
    refine ab_getfield hX dX11_worlds_8 (fs_X11_25_12 rfl) cg_x rfl ?_
    refine ab_iload_n hX dX11_worlds_11 mm1 ?_
    refine ab_callV1r hX dX11_worlds_12 (cg_tr (show 0 < 3 by decide)) ss_X11_worlds_185 (cm_X10_mayBeOrLeft hG hM (show 0 < 3 by decide) hL0 hL1) (Nat.le_of_ble_eq_true rfl) ?_
    refine ab_goto (tgt := 22) hX dX11_worlds_15 (by decide) ?_
    exact ab_lreturn hX hF dX11_worlds_22 rfl (congrArg some (congrArg Value.long (by first | rfl | (simp only [wldC, h_1, ↓reduceIte, Bool.false_eq_true]; done) | (simp only [wldC, h_1, ↓reduceIte, Bool.false_eq_true]; rfl) | (unfold wldC; (repeat' split) <;> first | rfl | contradiction | (simp_all; done))))) (by rfl)
theorem cm_X11_many {G : ab_G} (hG : ab_GG G) {c : CS} {M D : List ab_E} (hM : M.length = 1) {what : Int32} {nl : Nat} {ql : Nat → SY} (hL0 : cL c D (2 * 0) nl ql) {ns : Nat} {qs : Nat → SY} (hL1 : cL c D (2 * 0 + 1) ns qs)  : ab_CM G mX11_many [.ref 0, .int what] (cH c M D) (some (.int (manyC ql nl qs ns what))) (cH c M D) := by
  refine ab_meth (l0 := [(0, .ref 0), (1, .int what)]) hG (by decide +kernel) rfl (Nat.le_of_ble_eq_true rfl) (Nat.le_refl _) (Nat.le_refl _) (fun X hX hF => ?_)
  have h10 := hL0.2.1
  have h11 := hL1.2.1
  refine ab_iload_n hX dX11_many_0 mm1 ?_
  refine ab_callS1r hX dX11_many_1 ss_X11_many_182 (cm_X11_isEitherOr hG) (Nat.le_of_ble_eq_true rfl) ?_
  refine ab_ifeqB (tgt := 21) hX dX11_many_4 (by decide) (fun h_1 => ?_) (fun h_1 => ?_)
  ·
    refine ab_iconst (v := (-1)) hX dX11_many_21 (by decide) ?_
    exact ab_ireturn hX hF dX11_many_22 rfl (by rfl) (congrArg some (congrArg Value.int (by first | rfl | (simp only [manyC, h_1, ↓reduceIte, Bool.false_eq_true]; done) | (simp only [manyC, h_1, ↓reduceIte, Bool.false_eq_true]; rfl) | (unfold manyC; (repeat' split) <;> first | rfl | contradiction | (simp_all; done))))) (by rfl)
  ·
    refine ab_aload_n hX dX11_many_7 mm0 ?_
    refine ab_getfield hX dX11_many_8 (fs_X11_25_12 rfl) cg_x rfl ?_
    refine ab_iload_n hX dX11_many_11 mm1 ?_
    refine ab_callV1r hX dX11_many_12 (cg_tr (show 0 < 3 by decide)) ss_X11_many_185 (cm_X10_mayBeOrLeft hG hM (show 0 < 3 by decide) hL0 hL1) (Nat.le_of_ble_eq_true rfl) ?_
    refine ab_callS1r hX dX11_many_15 ss_X11_many_192 (cm_J13_bitCount_95d88 hG) (Nat.le_of_ble_eq_true rfl) ?_
    refine ab_goto (tgt := 22) hX dX11_many_18 (by decide) ?_
    exact ab_ireturn hX hF dX11_many_22 rfl (by rfl) (congrArg some (congrArg Value.int (by first | rfl | (simp only [manyC, h_1, ↓reduceIte, Bool.false_eq_true]; done) | (simp only [manyC, h_1, ↓reduceIte, Bool.false_eq_true]; rfl) | (unfold manyC; (repeat' split) <;> first | rfl | contradiction | (simp_all; done))))) (by rfl)
theorem cm_X11_proved {G : ab_G} (hG : ab_GG G) {c : CS} {M D : List ab_E} (hM : M.length = 1) {what : Int32} {nl : Nat} {ql : Nat → SY} (hL0 : cL c D (2 * 0) nl ql) {ns : Nat} {qs : Nat → SY} (hL1 : cL c D (2 * 0 + 1) ns qs)  : ab_CM G mX11_proved [.ref 0, .int what] (cH c M D) (some (.int (provC ql nl qs ns what))) (cH c M D) := by
  refine ab_meth (l0 := [(0, .ref 0), (1, .int what)]) hG (by decide +kernel) rfl (Nat.le_of_ble_eq_true rfl) (Nat.le_refl _) (Nat.le_refl _) (fun X hX hF => ?_)
  have h10 := hL0.2.1
  have h11 := hL1.2.1
  refine ab_iload_n hX dX11_proved_0 mm1 ?_
  refine ab_callS1r hX dX11_proved_1 ss_X11_proved_182 (cm_X11_isEitherOr hG) (Nat.le_of_ble_eq_true rfl) ?_
  refine ab_ifneB (tgt := 9) hX dX11_proved_4 (by decide) (fun h_1 => ?_) (fun h_1 => ?_)
  ·
    refine ab_iload_n hX dX11_proved_9 mm1 ?_
    refine ab_ifne (tgt := 26) hX dX11_proved_10 (by decide) (fun h_2 => ?_) (fun h_2 => ?_)
    ·
      refine ab_aload_n hX dX11_proved_26 mm0 ?_
      refine ab_getfield hX dX11_proved_27 (fs_X11_25_12 rfl) cg_x rfl ?_
      refine ab_callV0r hX dX11_proved_30 (cg_tr (show 0 < 3 by decide)) ss_X11_proved_198 (cm_X10_left hG hM (show 0 < 3 by decide) hL0 hL1) (Nat.le_of_ble_eq_true rfl) ?_
      refine ab_callS1r hX dX11_proved_33 ss_X11_proved_205 (cm_X11_factsOfNone hG) (Nat.le_of_ble_eq_true rfl) ?_
      exact ab_ireturn hX hF dX11_proved_36 rfl (by rfl) (congrArg some (congrArg Value.int (by first | rfl | (simp only [provC, h_1, h_2, ↓reduceIte, Bool.false_eq_true]; done) | (simp only [provC, h_1, h_2, ↓reduceIte, Bool.false_eq_true]; rfl) | (unfold provC; (repeat' split) <;> first | rfl | contradiction | (simp_all; done))))) (by rfl)
    ·
      refine ab_aload_n hX dX11_proved_13 mm0 ?_
      refine ab_getfield hX dX11_proved_14 (fs_X11_25_12 rfl) cg_x rfl ?_
      refine ab_callV0r hX dX11_proved_17 (cg_tr (show 0 < 3 by decide)) ss_X11_proved_198 (cm_X10_left hG hM (show 0 < 3 by decide) hL0 hL1) (Nat.le_of_ble_eq_true rfl) ?_
      refine ab_callS1r hX dX11_proved_20 ss_X11_proved_202 (cm_X11_factsOfAll hG) (Nat.le_of_ble_eq_true rfl) ?_
      refine ab_goto (tgt := 36) hX dX11_proved_23 (by decide) ?_
      exact ab_ireturn hX hF dX11_proved_36 rfl (by rfl) (congrArg some (congrArg Value.int (by first | rfl | (simp only [provC, h_1, h_2, ↓reduceIte, Bool.false_eq_true]; done) | (simp only [provC, h_1, h_2, ↓reduceIte, Bool.false_eq_true]; rfl) | (unfold provC; (repeat' split) <;> first | rfl | contradiction | (simp_all; done))))) (by rfl)
  ·
    refine ab_iconst (v := (-1)) hX dX11_proved_7 (by decide) ?_
    exact ab_ireturn hX hF dX11_proved_8 rfl (by rfl) (congrArg some (congrArg Value.int (by first | rfl | (simp only [provC, h_1, ↓reduceIte, Bool.false_eq_true]; done) | (simp only [provC, h_1, ↓reduceIte, Bool.false_eq_true]; rfl) | (unfold provC; (repeat' split) <;> first | rfl | contradiction | (simp_all; done))))) (by rfl)
theorem cm_X11_slips {G : ab_G} (hG : ab_GG G) {c : CS} {M D : List ab_E} (hM : M.length = 1) {what : Int32} {ns : Nat} {qs : Nat → SY} (hL1 : cL c D (2 * 0 + 1) ns qs)  : ab_CM G mX11_slips [.ref 0, .int what] (cH c M D) (some (.int (slipC qs ns (c.1 (20 + 0)) what))) (cH c M D) := by
  refine ab_meth (l0 := [(0, .ref 0), (1, .int what)]) hG (by decide +kernel) rfl (Nat.le_of_ble_eq_true rfl) (Nat.le_refl _) (Nat.le_refl _) (fun X hX hF => ?_)
  have h11 := hL1.2.1
  refine ab_iload_n hX dX11_slips_0 mm1 ?_
  refine ab_callS1r hX dX11_slips_1 ss_X11_slips_182 (cm_X11_isEitherOr hG) (Nat.le_of_ble_eq_true rfl) ?_
  refine ab_ifneB (tgt := 9) hX dX11_slips_4 (by decide) (fun h_1 => ?_) (fun h_1 => ?_)
  ·
    refine ab_aload_n hX dX11_slips_9 mm0 ?_
    refine ab_getfield hX dX11_slips_10 (fs_X11_25_12 rfl) cg_x rfl ?_
    refine ab_aload_n hX dX11_slips_13 mm0 ?_
    refine ab_getfield hX dX11_slips_14 (fs_X11_25_12 rfl) cg_x rfl ?_
    refine ab_getfield hX dX11_slips_17 (fs_X11_114_11 rfl) (cg_tr (show 0 < 3 by decide)) rfl ?_
    refine ab_callV1r hX dX11_slips_20 (cg_tr (show 0 < 3 by decide)) ss_X11_slips_208 (cm_X10_trueOnes hG hM (show 0 < 3 by decide) hL1) (Nat.le_of_ble_eq_true rfl) ?_
    refine ab_istore_n hX dX11_slips_23 rfl (by decide) rfl ?_
    refine ab_iload_n hX dX11_slips_24 mm2 ?_
    refine ab_ifne (tgt := 30) hX dX11_slips_25 (by decide) (fun h_2 => ?_) (fun h_2 => ?_)
    ·
      refine ab_iload_n hX dX11_slips_30 mm0 ?_
      refine ab_ifne (tgt := 39) hX dX11_slips_31 (by decide) (fun h_3 => ?_) (fun h_3 => ?_)
      ·
        refine ab_iload_n hX dX11_slips_39 mm0 ?_
        refine ab_callS1r hX dX11_slips_40 ss_X11_slips_211 (cm_J6_numberOfTrailingZeros_0f7a4 hG) (Nat.le_of_ble_eq_true rfl) ?_
        exact ab_ireturn hX hF dX11_slips_43 rfl (by rfl) (congrArg some (congrArg Value.int (by first | rfl | (simp only [slipC, h_1, h_2, h_3, ↓reduceIte, Bool.false_eq_true]; done) | (simp only [slipC, h_1, h_2, h_3, ↓reduceIte, Bool.false_eq_true]; rfl) | (unfold slipC; (repeat' split) <;> first | rfl | contradiction | (simp_all; done))))) (by rfl)
      ·
        refine ab_bipush (v := (-4)) hX dX11_slips_34 (by decide) ?_
        refine ab_goto (tgt := 43) hX dX11_slips_36 (by decide) ?_
        exact ab_ireturn hX hF dX11_slips_43 rfl (by rfl) (congrArg some (congrArg Value.int (by first | rfl | (simp only [slipC, h_1, h_2, h_3, ↓reduceIte, Bool.false_eq_true]; done) | (simp only [slipC, h_1, h_2, h_3, ↓reduceIte, Bool.false_eq_true]; rfl) | (unfold slipC; (repeat' split) <;> first | rfl | contradiction | (simp_all; done))))) (by rfl)
    ·
      refine ab_iload_n hX dX11_slips_28 mm0 ?_
      exact ab_ireturn hX hF dX11_slips_29 rfl (by rfl) (congrArg some (congrArg Value.int (by first | rfl | (simp only [slipC, h_1, h_2, ↓reduceIte, Bool.false_eq_true]; done) | (simp only [slipC, h_1, h_2, ↓reduceIte, Bool.false_eq_true]; rfl) | (unfold slipC; (repeat' split) <;> first | rfl | contradiction | (simp_all; done))))) (by rfl)
  ·
    refine ab_iconst (v := (-1)) hX dX11_slips_7 (by decide) ?_
    exact ab_ireturn hX hF dX11_slips_8 rfl (by rfl) (congrArg some (congrArg Value.int (by first | rfl | (simp only [slipC, h_1, ↓reduceIte, Bool.false_eq_true]; done) | (simp only [slipC, h_1, ↓reduceIte, Bool.false_eq_true]; rfl) | (unfold slipC; (repeat' split) <;> first | rfl | contradiction | (simp_all; done))))) (by rfl)
theorem cm_X11_alone {G : ab_G} (hG : ab_GG G) {c : CS} {M D : List ab_E} (hM : M.length = 1) {k : Int32} {nl : Nat} {ql : Nat → SY} (hL0 : cL c D (2 * 0) nl ql) {ns : Nat} {qs : Nat → SY} (hL1 : cL c D (2 * 0 + 1) ns qs)  : ab_CM G mX11_alone [.ref 0, .int k] (cH c M D) (some (.int (aloneC c ql nl qs k))) (cH c M D) := by
  refine ab_meth (l0 := [(0, .ref 0), (1, .int k)]) hG (by decide +kernel) rfl (Nat.le_of_ble_eq_true rfl) (Nat.le_refl _) (Nat.le_refl _) (fun X hX hF => ?_)
  have h10 := hL0.2.1
  have h11 := hL1.2.1
  refine ab_aload_n hX dX11_alone_0 mm0 ?_
  refine ab_getfield hX dX11_alone_1 (fs_X11_25_12 rfl) cg_x rfl ?_
  refine ab_getfield hX dX11_alone_4 (fs_X11_107_11 rfl) (cg_tr (show 0 < 3 by decide)) rfl ?_
  refine ab_iload_n hX dX11_alone_7 mm1 ?_
  rcases li_cases hL1.1 (by omega) k with ⟨i, hi, rfl, hinc, ic⟩ | hno
  ·
    obtain ⟨r_, hr_, hc_⟩ := si_ok hG hM (show 2 * 0 + 1 < 6 by decide) hL1 hi
    refine ab_callS2r hX dX11_alone_8 ss_X11_alone_97 hc_ (Nat.le_of_ble_eq_true rfl) ?_
    refine ab_astore_n hX dX11_alone_11 rfl (by decide) rfl ?_
    refine ab_aload_n hX dX11_alone_12 mm0 ?_
    refine ab_ifnonnull (tgt := 20) hX dX11_alone_13 (by decide) ?_
    refine ab_aload_n hX dX11_alone_20 mm1 ?_
    refine ab_getfield hX dX11_alone_21 (fs_X11_25_12 rfl) cg_x rfl ?_
    refine ab_callV0r hX dX11_alone_24 (cg_tr (show 0 < 3 by decide)) ss_X11_alone_216 (cm_X10_mayBe hG hM (show 0 < 3 by decide) hL0) (Nat.le_of_ble_eq_true rfl) ?_
    refine ab_aload_n hX dX11_alone_27 mm0 ?_
    refine ab_getfield hX dX11_alone_28 (fs_X11_110_8 rfl) (cD_get hM hr_) rfl ?_
    refine ab_ldc2 hX dX11_alone_31 tw_620 ?_
    refine ab_lxor hX dX11_alone_34 ?_
    refine ab_land hX dX11_alone_35 ?_
    refine ab_callS1r hX dX11_alone_36 ss_X11_alone_192 (cm_J13_bitCount_95d88 hG) (Nat.le_of_ble_eq_true rfl) ?_
    exact ab_ireturn hX hF dX11_alone_39 rfl (by rfl) (congrArg some (congrArg Value.int (by first | rfl | (simp only [aloneC, hinc, ic, ↓reduceIte, Bool.false_eq_true]; done) | (simp only [aloneC, hinc, ic, ↓reduceIte, Bool.false_eq_true]; rfl) | (unfold aloneC; (repeat' split) <;> first | rfl | contradiction | (simp_all; done))))) (by rfl)
  ·
    refine ab_callS2r hX dX11_alone_8 ss_X11_alone_97 (si_no hG hM (show 2 * 0 + 1 < 6 by decide) hL1 hno) (Nat.le_of_ble_eq_true rfl) ?_
    refine ab_astore_nN hX dX11_alone_11 rfl (by decide) rfl ?_
    refine ab_aload_nN hX dX11_alone_12 mm0 ?_
    refine ab_ifnonnullN hX dX11_alone_13 ?_
    refine ab_iconst (v := (-1)) hX dX11_alone_16 (by decide) ?_
    refine ab_goto (tgt := 39) hX dX11_alone_17 (by decide) ?_
    exact ab_ireturn hX hF dX11_alone_39 rfl (by rfl) (congrArg some (congrArg Value.int (by first | rfl | (simp only [aloneC, hno, ↓reduceIte, Bool.false_eq_true]; done) | (simp only [aloneC, hno, ↓reduceIte, Bool.false_eq_true]; rfl) | (unfold aloneC; (repeat' split) <;> first | rfl | contradiction | (simp_all; done))))) (by rfl)
theorem cm_X11_clash {G : ab_G} (hG : ab_GG G) {c : CS} {M D : List ab_E} (hM : M.length = 1)  {nl : Nat} {ql : Nat → SY} (hL0 : cL c D (2 * 0) nl ql) {ns : Nat} {qs : Nat → SY} (hL1 : cL c D (2 * 0 + 1) ns qs)  : ab_CM G mX11_clash [.ref 0] (cH c M D) (some (.int (clR ns (clQ ql nl qs) ns 0))) (cH c M D) := by
  refine ab_meth (l0 := [(0, .ref 0)]) hG (by decide +kernel) rfl (Nat.le_of_ble_eq_true rfl) (Nat.le_refl _) (Nat.le_refl _) (fun X hX hF => ?_)
  have h10 := hL0.2.1
  have h11 := hL1.2.1
  refine ab_aload_n hX dX11_clash_0 mm0 ?_
  refine ab_getfield hX dX11_clash_1 (fs_X11_25_12 rfl) cg_x rfl ?_
  refine ab_callV0r hX dX11_clash_4 (cg_tr (show 0 < 3 by decide)) ss_X11_clash_216 (cm_X10_mayBe hG hM (show 0 < 3 by decide) hL0) (Nat.le_of_ble_eq_true rfl) ?_
  refine ab_lstore_n hX dX11_clash_7 rfl (by decide) rfl ?_
  refine ab_iconst (v := 0) hX dX11_clash_8 (by decide) ?_
  refine ab_istore_n hX dX11_clash_9 rfl (by decide) rfl ?_
  have L10 : ∀ (k10_ : Nat) (i : Nat) (hi_ : i ≤ ns) (hr : clR ns (clQ ql nl qs) (ns - i) i = clR ns (clQ ql nl qs) ns 0), k10_ = ns - i → ab_WA G mX11_clash X 10 [(0, .ref 0), (1, .long (mbT ql nl)), (3, .int (nI i))] [] (cH c M D) := by
    intro k10_
    induction k10_ using Nat.strongRecOn with
    | _ k10_ ih10 =>
      intro i hi_ hr hk10_
      refine ab_iload_n hX dX11_clash_10 mm2 ?_
      refine ab_aload_n hX dX11_clash_11 mm0 ?_
      refine ab_getfield hX dX11_clash_12 (fs_X11_25_12 rfl) cg_x rfl ?_
      refine ab_getfield hX dX11_clash_15 (fs_X11_107_11 rfl) (cg_tr (show 0 < 3 by decide)) rfl ?_
      refine ab_callV0r hX dX11_clash_18 (cg_al (by omega)) ss_X11_clash_163 (cm_Jx4a65c_size_8abf5 hG (cg_al (by omega))) (Nat.le_of_ble_eq_true rfl) ?_
      refine ab_icmpge (tgt := 139) hX dX11_clash_21 (by decide) (fun h_1 => ?_) (fun h_1 => ?_)
      ·
        have hx_ := ctE (N := ns) h_1 (by exact hL1.1) (by omega) (by omega)
        obtain rfl : ns = i := by omega
        refine ab_bipush (v := (-4)) hX dX11_clash_139 (by decide) ?_
        exact ab_ireturn hX hF dX11_clash_141 rfl (by rfl) (congrArg some (congrArg Value.int (by rw [← hr, Nat.sub_self]; rfl))) (by rfl)
      ·
        have hlt_ := ctL (N := ns) h_1 (by exact hL1.1) (by omega) (by omega)
        refine ab_lload_n hX dX11_clash_24 mm1 ?_
        refine ab_aload_n hX dX11_clash_25 mm0 ?_
        refine ab_getfield hX dX11_clash_26 (fs_X11_25_12 rfl) cg_x rfl ?_
        refine ab_getfield hX dX11_clash_29 (fs_X11_107_11 rfl) (cg_tr (show 0 < 3 by decide)) rfl ?_
        refine ab_iload_n hX dX11_clash_32 mm2 ?_
        obtain ⟨r_, hr_, hc_⟩ := cL_read hG (M := M) hM (i := i) (by omega) hL1 (by omega)
        refine ab_callV1r hX dX11_clash_33 (cg_al (by omega)) ss_X11_clash_221 hc_ (Nat.le_of_ble_eq_true rfl) ?_
        refine ab_castS hX dX11_clash_36 (cD_get hM hr_) rfl tw_359 ?_
        refine ab_getfield hX dX11_clash_39 (fs_X11_110_8 rfl) (cD_get hM hr_) rfl ?_
        refine ab_ldc2 hX dX11_clash_42 tw_620 ?_
        refine ab_lxor hX dX11_clash_45 ?_
        refine ab_land hX dX11_clash_46 ?_
        refine ab_lstore hX dX11_clash_47 (by decide) rfl ?_
        refine ab_iload_n hX dX11_clash_49 mm3 ?_
        refine ab_iconst (v := 1) hX dX11_clash_50 (by decide) ?_
        refine ab_iadd hX dX11_clash_51 ?_
        refine ab_istore hX dX11_clash_52 (by decide) rfl ?_
        have L54 : ∀ (k54_ : Nat) (j : Nat) (hj_ : i + 1 ≤ j ∧ j ≤ ns) (hq : fnd (clQ ql nl qs i) (ns - j) j = fnd (clQ ql nl qs i) (ns - (i + 1)) (i + 1)), k54_ = ns - j → ab_WA G mX11_clash X 54 [(0, .ref 0), (1, .long (mbT ql nl)), (3, .int (nI i)), (4, .long (mbT ql nl &&& (wY (qs i) ^^^ (-1)))), (6, .int (nI j))] [] (cH c M D) := by
          intro k54_
          induction k54_ using Nat.strongRecOn with
          | _ k54_ ih54 =>
            intro j hj_ hq hk54_
            refine ab_iload hX dX11_clash_54 mm4 ?_
            refine ab_aload_n hX dX11_clash_56 mm0 ?_
            refine ab_getfield hX dX11_clash_57 (fs_X11_25_12 rfl) cg_x rfl ?_
            refine ab_getfield hX dX11_clash_60 (fs_X11_107_11 rfl) (cg_tr (show 0 < 3 by decide)) rfl ?_
            refine ab_callV0r hX dX11_clash_63 (cg_al (by omega)) ss_X11_clash_163 (cm_Jx4a65c_size_8abf5 hG (cg_al (by omega))) (Nat.le_of_ble_eq_true rfl) ?_
            refine ab_icmpge (tgt := 133) hX dX11_clash_66 (by decide) (fun h_2 => ?_) (fun h_2 => ?_)
            ·
              have hx_ := ctE (N := ns) h_2 (by exact hL1.1) (by omega) (by omega)
              obtain rfl : ns = j := by omega
              refine ab_iinc hX dX11_clash_133 mm2 rfl (by decide) rfl ?_
              refine ab_goto (tgt := 10) hX dX11_clash_136 (by decide) ?_
              exact ab_pm3 mm1 (mmv2 (congrArg Value.long (by first | rfl | exact (nI_1 _).symm))) (mmv0 (congrArg Value.int (by first | rfl | exact (nI_1 _).symm))) (ih10 (_) (by omega) (i + 1) (by omega) ((clR_miss (k := ns - i) (by omega) (by rw [← hq, Nat.sub_self]; rfl)).trans hr) rfl)
            ·
              have hltj_ := ctL (N := ns) h_2 (by exact hL1.1) (by omega) (by omega)
              refine ab_lload_n hX dX11_clash_69 mm1 ?_
              refine ab_aload_n hX dX11_clash_70 mm0 ?_
              refine ab_getfield hX dX11_clash_71 (fs_X11_25_12 rfl) cg_x rfl ?_
              refine ab_getfield hX dX11_clash_74 (fs_X11_107_11 rfl) (cg_tr (show 0 < 3 by decide)) rfl ?_
              refine ab_iload hX dX11_clash_77 mm4 ?_
              obtain ⟨r_, hr_, hc_⟩ := cL_read hG (M := M) hM (i := j) (by omega) hL1 (by omega)
              refine ab_callV1r hX dX11_clash_79 (cg_al (by omega)) ss_X11_clash_221 hc_ (Nat.le_of_ble_eq_true rfl) ?_
              refine ab_castS hX dX11_clash_82 (cD_get hM hr_) rfl tw_359 ?_
              refine ab_getfield hX dX11_clash_85 (fs_X11_110_8 rfl) (cD_get hM hr_) rfl ?_
              refine ab_ldc2 hX dX11_clash_88 tw_620 ?_
              refine ab_lxor hX dX11_clash_91 ?_
              refine ab_land hX dX11_clash_92 ?_
              refine ab_lstore hX dX11_clash_93 (by decide) rfl ?_
              refine ab_lload hX dX11_clash_95 mm4 ?_
              refine ab_lconst (v := 0) hX dX11_clash_97 rfl ?_
              refine ab_lcmp hX dX11_clash_98 ?_
              refine ab_ifeqC (tgt := 127) hX dX11_clash_99 (by decide) (fun h_3 => ?_) (fun h_3 => ?_)
              ·
                refine ab_iinc hX dX11_clash_127 mm5 rfl (by decide) rfl ?_
                refine ab_goto (tgt := 54) hX dX11_clash_130 (by decide) ?_
                exact ab_pm5 mm2 (mmv3 (congrArg Value.long (by first | exact (nI_1 _).symm | rfl))) (mmv4 (congrArg Value.int (by first | exact (nI_1 _).symm | rfl))) (mmv5 (congrArg Value.long (by first | exact (nI_1 _).symm | rfl))) (mmv0 (congrArg Value.int (by first | exact (nI_1 _).symm | rfl))) (ih54 (_) (by omega) (j + 1) (by omega) ((fnd_miss (k := ns - j) (by simp only [clQ, h_1, h_2, h_3, decide_true, decide_false, Bool.not_true, Bool.not_false, Bool.and_true, Bool.and_false, Bool.true_and, Bool.false_and]) (by omega)).trans hq) rfl)
              ·
                refine ab_lload hX dX11_clash_102 mm0 ?_
                refine ab_lconst (v := 0) hX dX11_clash_104 rfl ?_
                refine ab_lcmp hX dX11_clash_105 ?_
                refine ab_ifeqC (tgt := 127) hX dX11_clash_106 (by decide) (fun h_4 => ?_) (fun h_4 => ?_)
                ·
                  refine ab_iinc hX dX11_clash_127 mm5 rfl (by decide) rfl ?_
                  refine ab_goto (tgt := 54) hX dX11_clash_130 (by decide) ?_
                  exact ab_pm5 mm2 (mmv3 (congrArg Value.long (by first | exact (nI_1 _).symm | rfl))) (mmv4 (congrArg Value.int (by first | exact (nI_1 _).symm | rfl))) (mmv5 (congrArg Value.long (by first | exact (nI_1 _).symm | rfl))) (mmv0 (congrArg Value.int (by first | exact (nI_1 _).symm | rfl))) (ih54 (_) (by omega) (j + 1) (by omega) ((fnd_miss (k := ns - j) (by simp only [clQ, h_1, h_2, h_3, h_4, decide_true, decide_false, Bool.not_true, Bool.not_false, Bool.and_true, Bool.and_false, Bool.true_and, Bool.false_and]) (by omega)).trans hq) rfl)
                ·
                  refine ab_lload hX dX11_clash_109 mm4 ?_
                  refine ab_lload hX dX11_clash_111 mm0 ?_
                  refine ab_land hX dX11_clash_113 ?_
                  refine ab_lconst (v := 0) hX dX11_clash_114 rfl ?_
                  refine ab_lcmp hX dX11_clash_115 ?_
                  refine ab_ifneC (tgt := 127) hX dX11_clash_116 (by decide) (fun h_5 => ?_) (fun h_5 => ?_)
                  ·
                    refine ab_iinc hX dX11_clash_127 mm5 rfl (by decide) rfl ?_
                    refine ab_goto (tgt := 54) hX dX11_clash_130 (by decide) ?_
                    exact ab_pm5 mm2 (mmv3 (congrArg Value.long (by first | exact (nI_1 _).symm | rfl))) (mmv4 (congrArg Value.int (by first | exact (nI_1 _).symm | rfl))) (mmv5 (congrArg Value.long (by first | exact (nI_1 _).symm | rfl))) (mmv0 (congrArg Value.int (by first | exact (nI_1 _).symm | rfl))) (ih54 (_) (by omega) (j + 1) (by omega) ((fnd_miss (k := ns - j) (by simp only [clQ, h_1, h_2, h_3, h_4, h_5, decide_true, decide_false, Bool.not_true, Bool.not_false, Bool.and_true, Bool.and_false, Bool.true_and, Bool.false_and]) (by omega)).trans hq) rfl)
                  ·
                    refine ab_bipush (v := 10) hX dX11_clash_119 (by decide) ?_
                    refine ab_iload_n hX dX11_clash_121 mm3 ?_
                    refine ab_imul hX dX11_clash_122 ?_
                    refine ab_iload hX dX11_clash_123 mm5 ?_
                    refine ab_iadd hX dX11_clash_125 ?_
                    exact ab_ireturn hX hF dX11_clash_126 rfl (by rfl) (congrArg some (congrArg Value.int (by rw [← hr]; exact clR_hit (by omega) (by rw [← hq]; exact fnd_hit (by simp only [clQ, h_1, h_2, h_3, h_4, h_5, decide_true, decide_false, Bool.not_true, Bool.not_false, Bool.and_true, Bool.true_and]) (by omega))))) (by rfl)
        exact ab_pm5 mm2 (mmv3 (congrArg Value.long (by rfl))) (mmv4 (congrArg Value.int (by rfl))) (mmv1 (congrArg Value.long (by rfl))) (mmv0 (congrArg Value.int (by exact (nI_1 _).symm))) (L54 _ (i + 1) (by omega) rfl rfl)
  exact ab_pm3 mm2 (mmv1 (congrArg Value.long (by rfl))) (mmv0 (congrArg Value.int (by rfl))) (L10 _ 0 (by omega) rfl rfl)
theorem cm_X11_proof {G : ab_G} (hG : ab_GG G) {c : CS} {M D : List ab_E} (hM : M.length = 1) {fact : Int32} {nl : Nat} {ql : Nat → SY} (hL0 : cL c D (2 * 0) nl ql) {ns : Nat} {qs : Nat → SY} (hL1 : cL c D (2 * 0 + 1) ns qs)  : ab_CM G mX11_proof [.ref 0, .int fact] (cH c M D) (some (.int (proofC ql nl qs ns fact))) (cH c M D) := by
  refine ab_meth (l0 := [(0, .ref 0), (1, .int fact)]) hG (by decide +kernel) rfl (Nat.le_of_ble_eq_true rfl) (Nat.le_refl _) (Nat.le_refl _) (fun X hX hF => ?_)
  have h10 := hL0.2.1
  have h11 := hL1.2.1
  obtain ⟨P, hP⟩ : ∃ P, P = 2 ^ ns := ⟨_, rfl⟩
  have hp_ : P ≤ 1024 := hP ▸ pw2b h11
  refine ab_iload_n hX dX11_proof_0 mm1 ?_
  refine ab_callS1r hX dX11_proof_1 ss_X11_proof_135 (cm_X11_isFact hG) (Nat.le_of_ble_eq_true rfl) ?_
  refine ab_ifneB (tgt := 9) hX dX11_proof_4 (by decide) (fun h_1 => ?_) (fun h_1 => ?_)
  ·
    refine ab_aload_n hX dX11_proof_9 mm0 ?_
    refine ab_getfield hX dX11_proof_10 (fs_X11_25_12 rfl) cg_x rfl ?_
    refine ab_callV0r hX dX11_proof_13 (cg_tr (show 0 < 3 by decide)) ss_X11_proof_216 (cm_X10_mayBe hG hM (show 0 < 3 by decide) hL0) (Nat.le_of_ble_eq_true rfl) ?_
    refine ab_lstore_n hX dX11_proof_16 rfl (by decide) rfl ?_
    refine ab_bipush (v := (-4)) hX dX11_proof_17 (by decide) ?_
    refine ab_istore hX dX11_proof_19 (by decide) rfl ?_
    refine ab_bipush (v := 11) hX dX11_proof_21 (by decide) ?_
    refine ab_istore hX dX11_proof_23 (by decide) rfl ?_
    refine ab_iconst (v := 0) hX dX11_proof_25 (by decide) ?_
    refine ab_istore hX dX11_proof_26 (by decide) rfl ?_
    have L28 : ∀ (k28_ : Nat) (i : Nat) (hi_ : i ≤ P), k28_ = P - i → ab_WA G mX11_proof X 28 [(0, .ref 0), (1, .int fact), (2, .long (mbT ql nl)), (4, .int (acc (prG qs ns (mbT ql nl) fact) (-4, 11) i).1), (5, .int (acc (prG qs ns (mbT ql nl) fact) (-4, 11) i).2), (6, .int (nI i))] [] (cH c M D) := by
      intro k28_
      induction k28_ using Nat.strongRecOn with
      | _ k28_ ih28 =>
        intro i hi_ hk28_
        refine ab_iload hX dX11_proof_28 mm5 ?_
        refine ab_iconst (v := 1) hX dX11_proof_30 (by decide) ?_
        refine ab_aload_n hX dX11_proof_31 mm0 ?_
        refine ab_getfield hX dX11_proof_32 (fs_X11_25_12 rfl) cg_x rfl ?_
        refine ab_getfield hX dX11_proof_35 (fs_X11_107_11 rfl) (cg_tr (show 0 < 3 by decide)) rfl ?_
        refine ab_callV0r hX dX11_proof_38 (cg_al (by omega)) ss_X11_proof_163 (cm_Jx4a65c_size_8abf5 hG (cg_al (by omega))) (Nat.le_of_ble_eq_true rfl) ?_
        refine ab_ishl hX dX11_proof_41 ?_
        refine ab_icmpge (tgt := 90) hX dX11_proof_42 (by decide) (fun h_2 => ?_) (fun h_2 => ?_)
        ·
          have hx_ := ctE (N := P) h_2 (by show (1 : Int32) <<< (c.1 (30 + (2 * 0 + 1)) &&& 31) = _; rw [hL1.1, hP]; exact pw2 _ (by omega)) (by omega) (by omega)
          obtain rfl : P = i := by omega
          refine ab_iload hX dX11_proof_90 mm3 ?_
          exact ab_ireturn hX hF dX11_proof_92 rfl (by rfl) (congrArg some (congrArg Value.int (by subst hP; first | rfl | (simp only [proofC, h_1, h_2, ↓reduceIte, Bool.false_eq_true]; done) | (simp only [proofC, h_1, h_2, ↓reduceIte, Bool.false_eq_true]; rfl) | (unfold proofC; (repeat' split) <;> first | rfl | contradiction | (simp_all; done))))) (by rfl)
        ·
          have hlt_ := ctL (N := P) h_2 (by show (1 : Int32) <<< (c.1 (30 + (2 * 0 + 1)) &&& 31) = _; rw [hL1.1, hP]; exact pw2 _ (by omega)) (by omega) (by omega)
          refine ab_iload hX dX11_proof_45 mm5 ?_
          refine ab_callS1r hX dX11_proof_47 ss_X11_proof_224 (cm_J6_bitCount_0f7a4 hG) (Nat.le_of_ble_eq_true rfl) ?_
          refine ab_istore hX dX11_proof_50 (by decide) rfl ?_
          refine ab_iload hX dX11_proof_52 mm0 ?_
          refine ab_iload hX dX11_proof_54 mm5 ?_
          refine ab_icmpge (tgt := 84) hX dX11_proof_56 (by decide) (fun h_3 => ?_) (fun h_3 => ?_)
          ·
            refine ab_iinc hX dX11_proof_84 mm6 rfl (by decide) rfl ?_
            refine ab_goto (tgt := 28) hX dX11_proof_87 (by decide) ?_
            exact ab_pm6 mm2 (mmv3 (congrArg Value.int (by rfl))) (mmv4 (congrArg Value.long (by rfl))) (mmv5 (congrArg Value.int (by rw [acc_s]; try (first | rfl | (simp only [prG, h_1, h_2, h_3, ↓reduceIte, Bool.false_eq_true]; done) | (simp only [prG, h_1, h_2, h_3, ↓reduceIte, Bool.false_eq_true]; rfl) | (unfold prG; (repeat' split) <;> first | rfl | contradiction))))) (mmv6 (congrArg Value.int (by rw [acc_s]; try (first | rfl | (simp only [prG, h_1, h_2, h_3, ↓reduceIte, Bool.false_eq_true]; done) | (simp only [prG, h_1, h_2, h_3, ↓reduceIte, Bool.false_eq_true]; rfl) | (unfold prG; (repeat' split) <;> first | rfl | contradiction))))) (mmv0 (congrArg Value.int (by exact (nI_1 _).symm))) (ih28 (_) (by omega) (i + 1) (by omega) rfl)
          ·
            refine ab_aload_n hX dX11_proof_59 mm1 ?_
            refine ab_getfield hX dX11_proof_60 (fs_X11_25_12 rfl) cg_x rfl ?_
            refine ab_lload_n hX dX11_proof_63 mm3 ?_
            refine ab_iload hX dX11_proof_64 mm6 ?_
            refine ab_callV2r hX dX11_proof_66 (cg_tr (show 0 < 3 by decide)) ss_X11_proof_226 (cm_X10_leftBySaid hG hM (show 0 < 3 by decide) hL1) (Nat.le_of_ble_eq_true rfl) ?_
            refine ab_iload_n hX dX11_proof_69 mm2 ?_
            refine ab_callS2r hX dX11_proof_70 ss_X11_proof_230 (cm_X11_isProvedBy hG) (Nat.le_of_ble_eq_true rfl) ?_
            refine ab_ifeqB (tgt := 84) hX dX11_proof_73 (by decide) (fun h_4 => ?_) (fun h_4 => ?_)
            ·
              refine ab_iinc hX dX11_proof_84 mm6 rfl (by decide) rfl ?_
              refine ab_goto (tgt := 28) hX dX11_proof_87 (by decide) ?_
              exact ab_pm6 mm2 (mmv3 (congrArg Value.int (by rfl))) (mmv4 (congrArg Value.long (by rfl))) (mmv5 (congrArg Value.int (by rw [acc_s]; try (first | rfl | (simp only [prG, h_1, h_2, h_3, h_4, ↓reduceIte, Bool.false_eq_true]; done) | (simp only [prG, h_1, h_2, h_3, h_4, ↓reduceIte, Bool.false_eq_true]; rfl) | (unfold prG; (repeat' split) <;> first | rfl | contradiction))))) (mmv6 (congrArg Value.int (by rw [acc_s]; try (first | rfl | (simp only [prG, h_1, h_2, h_3, h_4, ↓reduceIte, Bool.false_eq_true]; done) | (simp only [prG, h_1, h_2, h_3, h_4, ↓reduceIte, Bool.false_eq_true]; rfl) | (unfold prG; (repeat' split) <;> first | rfl | contradiction))))) (mmv0 (congrArg Value.int (by exact (nI_1 _).symm))) (ih28 (_) (by omega) (i + 1) (by omega) rfl)
            ·
              refine ab_iload hX dX11_proof_76 mm6 ?_
              refine ab_istore hX dX11_proof_78 (by decide) rfl ?_
              refine ab_iload hX dX11_proof_80 mm1 ?_
              refine ab_istore hX dX11_proof_82 (by decide) rfl ?_
              refine ab_iinc hX dX11_proof_84 mm6 rfl (by decide) rfl ?_
              refine ab_goto (tgt := 28) hX dX11_proof_87 (by decide) ?_
              exact ab_pm6 mm4 (mmv5 (congrArg Value.int (by rfl))) (mmv6 (congrArg Value.long (by rfl))) (mmv2 (congrArg Value.int (by rw [acc_s]; try (first | rfl | (simp only [prG, h_1, h_2, h_3, h_4, ↓reduceIte, Bool.false_eq_true]; done) | (simp only [prG, h_1, h_2, h_3, h_4, ↓reduceIte, Bool.false_eq_true]; rfl) | (unfold prG; (repeat' split) <;> first | rfl | contradiction))))) (mmv1 (congrArg Value.int (by rw [acc_s]; try (first | rfl | (simp only [prG, h_1, h_2, h_3, h_4, ↓reduceIte, Bool.false_eq_true]; done) | (simp only [prG, h_1, h_2, h_3, h_4, ↓reduceIte, Bool.false_eq_true]; rfl) | (unfold prG; (repeat' split) <;> first | rfl | contradiction))))) (mmv0 (congrArg Value.int (by exact (nI_1 _).symm))) (ih28 (_) (by omega) (i + 1) (by omega) rfl)
    exact ab_pm6 mm4 (mmv5 (congrArg Value.int (by rfl))) (mmv3 (congrArg Value.long (by rfl))) (mmv2 (congrArg Value.int (by rfl))) (mmv1 (congrArg Value.int (by rfl))) (mmv0 (congrArg Value.int (by rfl))) (L28 _ 0 (by omega) rfl)
  ·
    refine ab_iconst (v := (-1)) hX dX11_proof_7 (by decide) ?_
    exact ab_ireturn hX hF dX11_proof_8 rfl (by rfl) (congrArg some (congrArg Value.int (by subst hP; first | rfl | (simp only [proofC, h_1, ↓reduceIte, Bool.false_eq_true]; done) | (simp only [proofC, h_1, ↓reduceIte, Bool.false_eq_true]; rfl) | (unfold proofC; (repeat' split) <;> first | rfl | contradiction | (simp_all; done))))) (by rfl)
theorem cm_X11_slipped {G : ab_G} (hG : ab_GG G) {c : CS} {M D : List ab_E} (hM : M.length = 1)  {nl : Nat} {ql : Nat → SY} (hL0 : cL c D (2 * 0) nl ql) {ns : Nat} {qs : Nat → SY} (hL1 : cL c D (2 * 0 + 1) ns qs)  : ab_CM G mX11_slipped [.ref 0] (cH c M D) (some (.int (slippedC ql nl qs ns))) (cH c M D) := by
  refine ab_meth (l0 := [(0, .ref 0)]) hG (by decide +kernel) rfl (Nat.le_of_ble_eq_true rfl) (Nat.le_refl _) (Nat.le_refl _) (fun X hX hF => ?_)
  have h10 := hL0.2.1
  have h11 := hL1.2.1
  refine ab_aload_n hX dX11_slipped_0 mm0 ?_
  refine ab_getfield hX dX11_slipped_1 (fs_X11_25_12 rfl) cg_x rfl ?_
  refine ab_callV0r hX dX11_slipped_4 (cg_tr (show 0 < 3 by decide)) ss_X11_slipped_216 (cm_X10_mayBe hG hM (show 0 < 3 by decide) hL0) (Nat.le_of_ble_eq_true rfl) ?_
  refine ab_lstore_n hX dX11_slipped_7 rfl (by decide) rfl ?_
  refine ab_bipush (v := (-4)) hX dX11_slipped_8 (by decide) ?_
  refine ab_istore_n hX dX11_slipped_10 rfl (by decide) rfl ?_
  refine ab_bipush (v := 11) hX dX11_slipped_11 (by decide) ?_
  refine ab_istore hX dX11_slipped_13 (by decide) rfl ?_
  refine ab_iconst (v := 0) hX dX11_slipped_15 (by decide) ?_
  refine ab_istore hX dX11_slipped_16 (by decide) rfl ?_
  have L18 : ∀ (k18_ : Nat) (i : Nat) (hi_ : i ≤ 64), k18_ = 64 - i → ab_WA G mX11_slipped X 18 [(0, .ref 0), (1, .long (mbT ql nl)), (3, .int (acc (slG qs ns (mbT ql nl)) (-4, 11) i).1), (4, .int (acc (slG qs ns (mbT ql nl)) (-4, 11) i).2), (5, .int (nI i))] [] (cH c M D) := by
    intro k18_
    induction k18_ using Nat.strongRecOn with
    | _ k18_ ih18 =>
      intro i hi_ hk18_
      refine ab_iload hX dX11_slipped_18 mm4 ?_
      refine ab_bipush (v := 64) hX dX11_slipped_20 (by decide) ?_
      refine ab_icmpge (tgt := 88) hX dX11_slipped_22 (by decide) (fun h_1 => ?_) (fun h_1 => ?_)
      ·
        have hx_ := ctE (N := 64) h_1 (by rfl) (by omega) (by omega)
        obtain rfl : 64 = i := by omega
        refine ab_iload_n hX dX11_slipped_88 mm2 ?_
        exact ab_ireturn hX hF dX11_slipped_89 rfl (by rfl) (congrArg some (congrArg Value.int (by rfl))) (by rfl)
      ·
        have hlt_ := ctL (N := 64) h_1 (by rfl) (by omega) (by omega)
        refine ab_lload_n hX dX11_slipped_25 mm1 ?_
        refine ab_iload hX dX11_slipped_26 mm4 ?_
        refine ab_callS2r hX dX11_slipped_28 ss_X11_slipped_117 (cm_X11_hasWorld hG) (Nat.le_of_ble_eq_true rfl) ?_
        refine ab_ifneB (tgt := 37) hX dX11_slipped_31 (by decide) (fun h_2 => ?_) (fun h_2 => ?_)
        ·
          refine ab_aload_n hX dX11_slipped_37 mm0 ?_
          refine ab_getfield hX dX11_slipped_38 (fs_X11_25_12 rfl) cg_x rfl ?_
          refine ab_iload hX dX11_slipped_41 mm4 ?_
          refine ab_callV1r hX dX11_slipped_43 (cg_tr (show 0 < 3 by decide)) ss_X11_slipped_208 (cm_X10_trueOnes hG hM (show 0 < 3 by decide) hL1) (Nat.le_of_ble_eq_true rfl) ?_
          refine ab_istore hX dX11_slipped_46 (by decide) rfl ?_
          refine ab_iload hX dX11_slipped_48 mm0 ?_
          refine ab_callS1r hX dX11_slipped_50 ss_X11_slipped_224 (cm_J6_bitCount_0f7a4 hG) (Nat.le_of_ble_eq_true rfl) ?_
          refine ab_istore hX dX11_slipped_53 (by decide) rfl ?_
          refine ab_iload hX dX11_slipped_55 mm0 ?_
          refine ab_iload hX dX11_slipped_57 mm5 ?_
          refine ab_icmplt (tgt := 75) hX dX11_slipped_59 (by decide) (fun h_3 => ?_) (fun h_3 => ?_)
          ·
            refine ab_iload hX dX11_slipped_75 mm1 ?_
            refine ab_istore_n hX dX11_slipped_77 rfl (by decide) rfl ?_
            refine ab_iload hX dX11_slipped_78 mm1 ?_
            refine ab_istore hX dX11_slipped_80 (by decide) rfl ?_
            refine ab_iinc hX dX11_slipped_82 mm6 rfl (by decide) rfl ?_
            refine ab_goto (tgt := 18) hX dX11_slipped_85 (by decide) ?_
            exact ab_pm5 mm5 (mmv6 (congrArg Value.long (by rfl))) (mmv2 (congrArg Value.int (by rw [acc_s]; try (first | rfl | (simp only [slG, h_1, h_2, h_3, ↓reduceIte, Bool.false_eq_true]; done) | (simp only [slG, h_1, h_2, h_3, ↓reduceIte, Bool.false_eq_true]; rfl) | (unfold slG; (repeat' split) <;> first | rfl | contradiction))))) (mmv1 (congrArg Value.int (by rw [acc_s]; try (first | rfl | (simp only [slG, h_1, h_2, h_3, ↓reduceIte, Bool.false_eq_true]; done) | (simp only [slG, h_1, h_2, h_3, ↓reduceIte, Bool.false_eq_true]; rfl) | (unfold slG; (repeat' split) <;> first | rfl | contradiction))))) (mmv0 (congrArg Value.int (by exact (nI_1 _).symm))) (ih18 (_) (by omega) (i + 1) (by omega) rfl)
          ·
            refine ab_iload hX dX11_slipped_62 mm0 ?_
            refine ab_iload hX dX11_slipped_64 mm5 ?_
            refine ab_icmpne (tgt := 82) hX dX11_slipped_66 (by decide) (fun h_4 => ?_) (fun h_4 => ?_)
            ·
              refine ab_iinc hX dX11_slipped_82 mm6 rfl (by decide) rfl ?_
              refine ab_goto (tgt := 18) hX dX11_slipped_85 (by decide) ?_
              exact ab_pm5 mm3 (mmv4 (congrArg Value.long (by rfl))) (mmv5 (congrArg Value.int (by rw [acc_s]; try (first | rfl | (simp only [slG, h_1, h_2, h_3, h_4, ↓reduceIte, Bool.false_eq_true]; done) | (simp only [slG, h_1, h_2, h_3, h_4, ↓reduceIte, Bool.false_eq_true]; rfl) | (unfold slG; (repeat' split) <;> first | rfl | contradiction))))) (mmv6 (congrArg Value.int (by rw [acc_s]; try (first | rfl | (simp only [slG, h_1, h_2, h_3, h_4, ↓reduceIte, Bool.false_eq_true]; done) | (simp only [slG, h_1, h_2, h_3, h_4, ↓reduceIte, Bool.false_eq_true]; rfl) | (unfold slG; (repeat' split) <;> first | rfl | contradiction))))) (mmv0 (congrArg Value.int (by exact (nI_1 _).symm))) (ih18 (_) (by omega) (i + 1) (by omega) rfl)
            ·
              refine ab_iload hX dX11_slipped_69 mm1 ?_
              refine ab_iload_n hX dX11_slipped_71 mm4 ?_
              refine ab_icmpge (tgt := 82) hX dX11_slipped_72 (by decide) (fun h_5 => ?_) (fun h_5 => ?_)
              ·
                refine ab_iinc hX dX11_slipped_82 mm6 rfl (by decide) rfl ?_
                refine ab_goto (tgt := 18) hX dX11_slipped_85 (by decide) ?_
                exact ab_pm5 mm3 (mmv4 (congrArg Value.long (by rfl))) (mmv5 (congrArg Value.int (by rw [acc_s]; try (first | rfl | (simp only [slG, h_1, h_2, h_3, h_4, h_5, ↓reduceIte, Bool.false_eq_true]; done) | (simp only [slG, h_1, h_2, h_3, h_4, h_5, ↓reduceIte, Bool.false_eq_true]; rfl) | (unfold slG; (repeat' split) <;> first | rfl | contradiction))))) (mmv6 (congrArg Value.int (by rw [acc_s]; try (first | rfl | (simp only [slG, h_1, h_2, h_3, h_4, h_5, ↓reduceIte, Bool.false_eq_true]; done) | (simp only [slG, h_1, h_2, h_3, h_4, h_5, ↓reduceIte, Bool.false_eq_true]; rfl) | (unfold slG; (repeat' split) <;> first | rfl | contradiction))))) (mmv0 (congrArg Value.int (by exact (nI_1 _).symm))) (ih18 (_) (by omega) (i + 1) (by omega) rfl)
              ·
                refine ab_iload hX dX11_slipped_75 mm1 ?_
                refine ab_istore_n hX dX11_slipped_77 rfl (by decide) rfl ?_
                refine ab_iload hX dX11_slipped_78 mm1 ?_
                refine ab_istore hX dX11_slipped_80 (by decide) rfl ?_
                refine ab_iinc hX dX11_slipped_82 mm6 rfl (by decide) rfl ?_
                refine ab_goto (tgt := 18) hX dX11_slipped_85 (by decide) ?_
                exact ab_pm5 mm5 (mmv6 (congrArg Value.long (by rfl))) (mmv2 (congrArg Value.int (by rw [acc_s]; try (first | rfl | (simp only [slG, h_1, h_2, h_3, h_4, h_5, ↓reduceIte, Bool.false_eq_true]; done) | (simp only [slG, h_1, h_2, h_3, h_4, h_5, ↓reduceIte, Bool.false_eq_true]; rfl) | (unfold slG; (repeat' split) <;> first | rfl | contradiction))))) (mmv1 (congrArg Value.int (by rw [acc_s]; try (first | rfl | (simp only [slG, h_1, h_2, h_3, h_4, h_5, ↓reduceIte, Bool.false_eq_true]; done) | (simp only [slG, h_1, h_2, h_3, h_4, h_5, ↓reduceIte, Bool.false_eq_true]; rfl) | (unfold slG; (repeat' split) <;> first | rfl | contradiction))))) (mmv0 (congrArg Value.int (by exact (nI_1 _).symm))) (ih18 (_) (by omega) (i + 1) (by omega) rfl)
        ·
          refine ab_goto (tgt := 82) hX dX11_slipped_34 (by decide) ?_
          refine ab_iinc hX dX11_slipped_82 mm4 rfl (by decide) rfl ?_
          refine ab_goto (tgt := 18) hX dX11_slipped_85 (by decide) ?_
          exact ab_pm5 mm1 (mmv2 (congrArg Value.long (by rfl))) (mmv3 (congrArg Value.int (by rw [acc_s]; try (first | rfl | (simp only [slG, h_1, h_2, ↓reduceIte, Bool.false_eq_true]; done) | (simp only [slG, h_1, h_2, ↓reduceIte, Bool.false_eq_true]; rfl) | (unfold slG; (repeat' split) <;> first | rfl | contradiction))))) (mmv4 (congrArg Value.int (by rw [acc_s]; try (first | rfl | (simp only [slG, h_1, h_2, ↓reduceIte, Bool.false_eq_true]; done) | (simp only [slG, h_1, h_2, ↓reduceIte, Bool.false_eq_true]; rfl) | (unfold slG; (repeat' split) <;> first | rfl | contradiction))))) (mmv0 (congrArg Value.int (by exact (nI_1 _).symm))) (ih18 (_) (by omega) (i + 1) (by omega) rfl)
  exact ab_pm5 mm4 (mmv3 (congrArg Value.long (by rfl))) (mmv2 (congrArg Value.int (by rfl))) (mmv1 (congrArg Value.int (by rfl))) (mmv0 (congrArg Value.int (by rfl))) (L18 _ 0 (by omega) rfl)
theorem cm_X11_ask {G : ab_G} (hG : ab_GG G) {c : CS} {M D : List ab_E} (hM : M.length = 1)  {nl : Nat} {ql : Nat → SY} (hL0 : cL c D (2 * 0) nl ql) {ns : Nat} {qs : Nat → SY} (hL1 : cL c D (2 * 0 + 1) ns qs)  : ab_CM G mX11_ask [.ref 0] (cH c M D) (some (.int (askC ql nl qs ns))) (cH c M D) := by
  refine ab_meth (l0 := [(0, .ref 0)]) hG (by decide +kernel) rfl (Nat.le_of_ble_eq_true rfl) (Nat.le_refl _) (Nat.le_refl _) (fun X hX hF => ?_)
  have h10 := hL0.2.1
  have h11 := hL1.2.1
  refine ab_aload_n hX dX11_ask_0 mm0 ?_
  refine ab_getfield hX dX11_ask_1 (fs_X11_25_12 rfl) cg_x rfl ?_
  refine ab_callV0r hX dX11_ask_4 (cg_tr (show 0 < 3 by decide)) ss_X11_ask_198 (cm_X10_left hG hM (show 0 < 3 by decide) hL0 hL1) (Nat.le_of_ble_eq_true rfl) ?_
  refine ab_lstore_n hX dX11_ask_7 rfl (by decide) rfl ?_
  refine ab_lload_n hX dX11_ask_8 mm0 ?_
  refine ab_lconst (v := 0) hX dX11_ask_9 rfl ?_
  refine ab_lcmp hX dX11_ask_10 ?_
  refine ab_ifneC (tgt := 17) hX dX11_ask_11 (by decide) (fun h_1 => ?_) (fun h_1 => ?_)
  ·
    refine ab_bipush (v := (-4)) hX dX11_ask_17 (by decide) ?_
    refine ab_istore_n hX dX11_ask_19 rfl (by decide) rfl ?_
    refine ab_iconst (v := (-1)) hX dX11_ask_20 (by decide) ?_
    refine ab_istore hX dX11_ask_21 (by decide) rfl ?_
    refine ab_iconst (v := 0) hX dX11_ask_23 (by decide) ?_
    refine ab_istore hX dX11_ask_24 (by decide) rfl ?_
    have L26 : ∀ (k26_ : Nat) (i : Nat) (hi_ : i ≤ 6), k26_ = 6 - i → ab_WA G mX11_ask X 26 [(0, .ref 0), (1, .long (lfT ql nl qs ns)), (3, .int (acc (akG (lfT ql nl qs ns)) (-4, -1) i).1), (4, .int (acc (akG (lfT ql nl qs ns)) (-4, -1) i).2), (5, .int (nI i))] [] (cH c M D) := by
      intro k26_
      induction k26_ using Nat.strongRecOn with
      | _ k26_ ih26 =>
        intro i hi_ hk26_
        refine ab_iload hX dX11_ask_26 mm4 ?_
        refine ab_bipush (v := 6) hX dX11_ask_28 (by decide) ?_
        refine ab_icmpge (tgt := 79) hX dX11_ask_30 (by decide) (fun h_2 => ?_) (fun h_2 => ?_)
        ·
          have hx_ := ctE (N := 6) h_2 (by rfl) (by omega) (by omega)
          obtain rfl : 6 = i := by omega
          refine ab_iload_n hX dX11_ask_79 mm2 ?_
          exact ab_ireturn hX hF dX11_ask_80 rfl (by rfl) (congrArg some (congrArg Value.int (by rw [askC, if_neg h_1]))) (by rfl)
        ·
          have hlt_ := ctL (N := 6) h_2 (by rfl) (by omega) (by omega)
          refine ab_lload_n hX dX11_ask_33 mm1 ?_
          refine ab_iload hX dX11_ask_34 mm4 ?_
          refine ab_callS1r hX dX11_ask_36 ss_X11_ask_233 (cm_X11_worldsWith hG) (Nat.le_of_ble_eq_true rfl) ?_
          refine ab_land hX dX11_ask_39 ?_
          refine ab_callS1r hX dX11_ask_40 ss_X11_ask_192 (cm_J13_bitCount_95d88 hG) (Nat.le_of_ble_eq_true rfl) ?_
          refine ab_istore hX dX11_ask_43 (by decide) rfl ?_
          refine ab_iload hX dX11_ask_45 mm0 ?_
          refine ab_lload_n hX dX11_ask_47 mm2 ?_
          refine ab_callS1r hX dX11_ask_48 ss_X11_ask_192 (cm_J13_bitCount_95d88 hG) (Nat.le_of_ble_eq_true rfl) ?_
          refine ab_iload hX dX11_ask_51 mm0 ?_
          refine ab_isub hX dX11_ask_53 ?_
          refine ab_mmin hX dX11_ask_54 tw_661 (by decide) (Nat.le_of_ble_eq_true rfl) ?_
          refine ab_istore hX dX11_ask_57 (by decide) rfl ?_
          refine ab_iload hX dX11_ask_59 mm0 ?_
          refine ab_iload hX dX11_ask_61 mm5 ?_
          refine ab_icmple (tgt := 73) hX dX11_ask_63 (by decide) (fun h_3 => ?_) (fun h_3 => ?_)
          ·
            refine ab_iinc hX dX11_ask_73 mm6 rfl (by decide) rfl ?_
            refine ab_goto (tgt := 26) hX dX11_ask_76 (by decide) ?_
            exact ab_pm5 mm3 (mmv4 (congrArg Value.long (by rfl))) (mmv5 (congrArg Value.int (by rw [acc_s]; try (first | rfl | (simp only [akG, h_1, h_2, h_3, ↓reduceIte, Bool.false_eq_true]; done) | (simp only [akG, h_1, h_2, h_3, ↓reduceIte, Bool.false_eq_true]; rfl) | (unfold akG; (repeat' split) <;> first | rfl | contradiction))))) (mmv6 (congrArg Value.int (by rw [acc_s]; try (first | rfl | (simp only [akG, h_1, h_2, h_3, ↓reduceIte, Bool.false_eq_true]; done) | (simp only [akG, h_1, h_2, h_3, ↓reduceIte, Bool.false_eq_true]; rfl) | (unfold akG; (repeat' split) <;> first | rfl | contradiction))))) (mmv0 (congrArg Value.int (by exact (nI_1 _).symm))) (ih26 (_) (by omega) (i + 1) (by omega) rfl)
          ·
            refine ab_iload hX dX11_ask_66 mm6 ?_
            refine ab_istore_n hX dX11_ask_68 rfl (by decide) rfl ?_
            refine ab_iload hX dX11_ask_69 mm1 ?_
            refine ab_istore hX dX11_ask_71 (by decide) rfl ?_
            refine ab_iinc hX dX11_ask_73 mm6 rfl (by decide) rfl ?_
            refine ab_goto (tgt := 26) hX dX11_ask_76 (by decide) ?_
            exact ab_pm5 mm5 (mmv6 (congrArg Value.long (by rfl))) (mmv2 (congrArg Value.int (by rw [acc_s]; try (first | rfl | (simp only [akG, h_1, h_2, h_3, ↓reduceIte, Bool.false_eq_true]; done) | (simp only [akG, h_1, h_2, h_3, ↓reduceIte, Bool.false_eq_true]; rfl) | (unfold akG; (repeat' split) <;> first | rfl | contradiction))))) (mmv1 (congrArg Value.int (by rw [acc_s]; try (first | rfl | (simp only [akG, h_1, h_2, h_3, ↓reduceIte, Bool.false_eq_true]; done) | (simp only [akG, h_1, h_2, h_3, ↓reduceIte, Bool.false_eq_true]; rfl) | (unfold akG; (repeat' split) <;> first | rfl | contradiction))))) (mmv0 (congrArg Value.int (by exact (nI_1 _).symm))) (ih26 (_) (by omega) (i + 1) (by omega) rfl)
    exact ab_pm5 mm4 (mmv3 (congrArg Value.long (by rfl))) (mmv2 (congrArg Value.int (by rfl))) (mmv1 (congrArg Value.int (by rfl))) (mmv0 (congrArg Value.int (by rfl))) (L26 _ 0 (by omega) rfl)
  ·
    refine ab_bipush (v := (-4)) hX dX11_ask_14 (by decide) ?_
    exact ab_ireturn hX hF dX11_ask_16 rfl (by rfl) (congrArg some (congrArg Value.int (by first | rfl | (simp only [askC, h_1, ↓reduceIte, Bool.false_eq_true]; done) | (simp only [askC, h_1, ↓reduceIte, Bool.false_eq_true]; rfl) | (unfold askC; (repeat' split) <;> first | rfl | contradiction | (simp_all; done))))) (by rfl)
theorem cm_X11_plain {G : ab_G} (hG : ab_GG G) {c : CS} {M D : List ab_E} (hM : M.length = 1)  {nl : Nat} {ql : Nat → SY} (hL0 : cL c D (2 * 0) nl ql) {ns : Nat} {qs : Nat → SY} (hL1 : cL c D (2 * 0 + 1) ns qs) {nw : Nat} (hw : c.1 (10 + 0) = nI nw) (hw5 : nw ≤ 5)  : ab_CM G mX11_plain [.ref 0] (cH c M D) (some (.int (plainC ql nl qs ns nw))) (cH c M D) := by
  refine ab_meth (l0 := [(0, .ref 0)]) hG (by decide +kernel) rfl (Nat.le_of_ble_eq_true rfl) (Nat.le_refl _) (Nat.le_refl _) (fun X hX hF => ?_)
  have h10 := hL0.2.1
  have h11 := hL1.2.1
  obtain ⟨P, hP⟩ : ∃ P, P = 2 ^ nw := ⟨_, rfl⟩
  have hp_ : P ≤ 1024 := hP ▸ pw2b (by omega)
  refine ab_bipush (v := (-4)) hX dX11_plain_0 (by decide) ?_
  refine ab_istore_n hX dX11_plain_2 rfl (by decide) rfl ?_
  refine ab_bipush (v := 6) hX dX11_plain_3 (by decide) ?_
  refine ab_istore_n hX dX11_plain_5 rfl (by decide) rfl ?_
  refine ab_iconst (v := 0) hX dX11_plain_6 (by decide) ?_
  refine ab_istore_n hX dX11_plain_7 rfl (by decide) rfl ?_
  have L8 : ∀ (k8_ : Nat) (i : Nat) (hi_ : i ≤ P), k8_ = P - i → ab_WA G mX11_plain X 8 [(0, .ref 0), (1, .int (acc (plG ql nl qs ns) (-4, 6) i).1), (2, .int (acc (plG ql nl qs ns) (-4, 6) i).2), (3, .int (nI i))] [] (cH c M D) := by
    intro k8_
    induction k8_ using Nat.strongRecOn with
    | _ k8_ ih8 =>
      intro i hi_ hk8_
      refine ab_iload_n hX dX11_plain_8 mm3 ?_
      refine ab_iconst (v := 1) hX dX11_plain_9 (by decide) ?_
      refine ab_aload_n hX dX11_plain_10 mm0 ?_
      refine ab_getfield hX dX11_plain_11 (fs_X11_25_12 rfl) cg_x rfl ?_
      refine ab_getfield hX dX11_plain_14 (fs_X11_179_11 rfl) (cg_tr (show 0 < 3 by decide)) rfl ?_
      refine ab_ishl hX dX11_plain_17 ?_
      refine ab_icmpge (tgt := 55) hX dX11_plain_18 (by decide) (fun h_1 => ?_) (fun h_1 => ?_)
      ·
        have hx_ := ctE (N := P) h_1 (by show (1 : Int32) <<< (c.1 (10 + 0) &&& 31) = _; rw [hw, hP]; exact pw2 _ (by omega)) (by omega) (by omega)
        obtain rfl : P = i := by omega
        refine ab_iload_n hX dX11_plain_55 mm1 ?_
        exact ab_ireturn hX hF dX11_plain_56 rfl (by rfl) (congrArg some (congrArg Value.int (by subst hP; rfl))) (by rfl)
      ·
        have hlt_ := ctL (N := P) h_1 (by show (1 : Int32) <<< (c.1 (10 + 0) &&& 31) = _; rw [hw, hP]; exact pw2 _ (by omega)) (by omega) (by omega)
        refine ab_iload_n hX dX11_plain_21 mm3 ?_
        refine ab_callS1r hX dX11_plain_22 ss_X11_plain_224 (cm_J6_bitCount_0f7a4 hG) (Nat.le_of_ble_eq_true rfl) ?_
        refine ab_istore hX dX11_plain_25 (by decide) rfl ?_
        refine ab_iload hX dX11_plain_27 mm0 ?_
        refine ab_iload_n hX dX11_plain_29 mm3 ?_
        refine ab_icmpge (tgt := 49) hX dX11_plain_30 (by decide) (fun h_2 => ?_) (fun h_2 => ?_)
        ·
          refine ab_iinc hX dX11_plain_49 mm4 rfl (by decide) rfl ?_
          refine ab_goto (tgt := 8) hX dX11_plain_52 (by decide) ?_
          exact ab_pm4 mm2 (mmv3 (congrArg Value.int (by rw [acc_s]; try (first | rfl | (simp only [plG, h_1, h_2, ↓reduceIte, Bool.false_eq_true]; done) | (simp only [plG, h_1, h_2, ↓reduceIte, Bool.false_eq_true]; rfl) | (unfold plG; (repeat' split) <;> first | rfl | contradiction))))) (mmv4 (congrArg Value.int (by rw [acc_s]; try (first | rfl | (simp only [plG, h_1, h_2, ↓reduceIte, Bool.false_eq_true]; done) | (simp only [plG, h_1, h_2, ↓reduceIte, Bool.false_eq_true]; rfl) | (unfold plG; (repeat' split) <;> first | rfl | contradiction))))) (mmv0 (congrArg Value.int (by exact (nI_1 _).symm))) (ih8 (_) (by omega) (i + 1) (by omega) rfl)
        ·
          refine ab_aload_n hX dX11_plain_33 mm1 ?_
          refine ab_getfield hX dX11_plain_34 (fs_X11_25_12 rfl) cg_x rfl ?_
          refine ab_iload_n hX dX11_plain_37 mm4 ?_
          refine ab_callV1r hX dX11_plain_38 (cg_tr (show 0 < 3 by decide)) ss_X11_plain_242 (cm_X10_isPlainBy hG hM (show 0 < 3 by decide) hL0 hL1) (Nat.le_of_ble_eq_true rfl) ?_
          refine ab_ifeqB (tgt := 49) hX dX11_plain_41 (by decide) (fun h_3 => ?_) (fun h_3 => ?_)
          ·
            refine ab_iinc hX dX11_plain_49 mm4 rfl (by decide) rfl ?_
            refine ab_goto (tgt := 8) hX dX11_plain_52 (by decide) ?_
            exact ab_pm4 mm2 (mmv3 (congrArg Value.int (by rw [acc_s]; try (first | rfl | (simp only [plG, h_1, h_2, h_3, ↓reduceIte, Bool.false_eq_true]; done) | (simp only [plG, h_1, h_2, h_3, ↓reduceIte, Bool.false_eq_true]; rfl) | (unfold plG; (repeat' split) <;> first | rfl | contradiction))))) (mmv4 (congrArg Value.int (by rw [acc_s]; try (first | rfl | (simp only [plG, h_1, h_2, h_3, ↓reduceIte, Bool.false_eq_true]; done) | (simp only [plG, h_1, h_2, h_3, ↓reduceIte, Bool.false_eq_true]; rfl) | (unfold plG; (repeat' split) <;> first | rfl | contradiction))))) (mmv0 (congrArg Value.int (by exact (nI_1 _).symm))) (ih8 (_) (by omega) (i + 1) (by omega) rfl)
          ·
            refine ab_iload_n hX dX11_plain_44 mm4 ?_
            refine ab_istore_n hX dX11_plain_45 rfl (by decide) rfl ?_
            refine ab_iload hX dX11_plain_46 mm1 ?_
            refine ab_istore_n hX dX11_plain_48 rfl (by decide) rfl ?_
            refine ab_iinc hX dX11_plain_49 mm4 rfl (by decide) rfl ?_
            refine ab_goto (tgt := 8) hX dX11_plain_52 (by decide) ?_
            exact ab_pm4 mm4 (mmv2 (congrArg Value.int (by rw [acc_s]; try (first | rfl | (simp only [plG, h_1, h_2, h_3, ↓reduceIte, Bool.false_eq_true]; done) | (simp only [plG, h_1, h_2, h_3, ↓reduceIte, Bool.false_eq_true]; rfl) | (unfold plG; (repeat' split) <;> first | rfl | contradiction))))) (mmv1 (congrArg Value.int (by rw [acc_s]; try (first | rfl | (simp only [plG, h_1, h_2, h_3, ↓reduceIte, Bool.false_eq_true]; done) | (simp only [plG, h_1, h_2, h_3, ↓reduceIte, Bool.false_eq_true]; rfl) | (unfold plG; (repeat' split) <;> first | rfl | contradiction))))) (mmv0 (congrArg Value.int (by exact (nI_1 _).symm))) (ih8 (_) (by omega) (i + 1) (by omega) rfl)
  exact ab_pm4 mm3 (mmv2 (congrArg Value.int (by rfl))) (mmv1 (congrArg Value.int (by rfl))) (mmv0 (congrArg Value.int (by rfl))) (L8 _ 0 (by omega) rfl)
theorem cm_X11_digitsOf {G : ab_G} (hG : ab_GG G) {c : CS} {M D : List ab_E} (hM : M.length = 1) {set : Int32} {ahead : Int32} {nw : Nat} (hw : c.1 (10 + 0) = nI nw) (hw5 : nw ≤ 5)  : ab_CM G mX11_digitsOf [.ref 0, .int set, .int ahead] (cH c M D) (some (.int (acc (doG set) ahead nw))) (cH c M D) := by
  refine ab_meth (l0 := [(0, .ref 0), (1, .int set), (2, .int ahead)]) hG (by decide +kernel) rfl (Nat.le_of_ble_eq_true rfl) (Nat.le_refl _) (Nat.le_refl _) (fun X hX hF => ?_)
  refine ab_iload_n hX dX11_digitsOf_0 mm2 ?_
  refine ab_istore_n hX dX11_digitsOf_1 rfl (by decide) rfl ?_
  refine ab_iconst (v := 0) hX dX11_digitsOf_2 (by decide) ?_
  refine ab_istore hX dX11_digitsOf_3 (by decide) rfl ?_
  have L5 : ∀ (k5_ : Nat) (i : Nat) (hi_ : i ≤ nw), k5_ = nw - i → ab_WA G mX11_digitsOf X 5 [(0, .ref 0), (1, .int set), (3, .int (acc (doG set) ahead i)), (4, .int (nI i))] [] (cH c M D) := by
    intro k5_
    induction k5_ using Nat.strongRecOn with
    | _ k5_ ih5 =>
      intro i hi_ hk5_
      refine ab_iload hX dX11_digitsOf_5 mm3 ?_
      refine ab_aload_n hX dX11_digitsOf_7 mm0 ?_
      refine ab_getfield hX dX11_digitsOf_8 (fs_X11_25_12 rfl) cg_x rfl ?_
      refine ab_getfield hX dX11_digitsOf_11 (fs_X11_179_11 rfl) (cg_tr (show 0 < 3 by decide)) rfl ?_
      refine ab_icmpge (tgt := 40) hX dX11_digitsOf_14 (by decide) (fun h_1 => ?_) (fun h_1 => ?_)
      ·
        have hx_ := ctE (N := nw) h_1 (by exact hw) (by omega) (by omega)
        obtain rfl : nw = i := by omega
        refine ab_iload_n hX dX11_digitsOf_40 mm2 ?_
        exact ab_ireturn hX hF dX11_digitsOf_41 rfl (by rfl) (congrArg some (congrArg Value.int (by rfl))) (by rfl)
      ·
        have hlt_ := ctL (N := nw) h_1 (by exact hw) (by omega) (by omega)
        refine ab_iload_n hX dX11_digitsOf_17 mm1 ?_
        refine ab_iload hX dX11_digitsOf_18 mm3 ?_
        refine ab_ishr hX dX11_digitsOf_20 ?_
        refine ab_iconst (v := 1) hX dX11_digitsOf_21 (by decide) ?_
        refine ab_iand hX dX11_digitsOf_22 ?_
        refine ab_ifeq (tgt := 34) hX dX11_digitsOf_23 (by decide) (fun h_2 => ?_) (fun h_2 => ?_)
        ·
          refine ab_iinc hX dX11_digitsOf_34 mm3 rfl (by decide) rfl ?_
          refine ab_goto (tgt := 5) hX dX11_digitsOf_37 (by decide) ?_
          exact ab_pm4 mm1 (mmv2 (congrArg Value.int (by rfl))) (mmv3 (congrArg Value.int (by rw [acc_s]; try (first | rfl | (simp only [doG, h_1, h_2, ↓reduceIte, Bool.false_eq_true]; done) | (simp only [doG, h_1, h_2, ↓reduceIte, Bool.false_eq_true]; rfl) | (unfold doG; (repeat' split) <;> first | rfl | contradiction))))) (mmv0 (congrArg Value.int (by exact (nI_1 _).symm))) (ih5 (_) (by omega) (i + 1) (by omega) rfl)
        ·
          refine ab_bipush (v := 10) hX dX11_digitsOf_26 (by decide) ?_
          refine ab_iload_n hX dX11_digitsOf_28 mm2 ?_
          refine ab_imul hX dX11_digitsOf_29 ?_
          refine ab_iload hX dX11_digitsOf_30 mm3 ?_
          refine ab_iadd hX dX11_digitsOf_32 ?_
          refine ab_istore_n hX dX11_digitsOf_33 rfl (by decide) rfl ?_
          refine ab_iinc hX dX11_digitsOf_34 mm3 rfl (by decide) rfl ?_
          refine ab_goto (tgt := 5) hX dX11_digitsOf_37 (by decide) ?_
          exact ab_pm4 mm2 (mmv3 (congrArg Value.int (by rfl))) (mmv1 (congrArg Value.int (by rw [acc_s]; try (first | rfl | (simp only [doG, h_1, h_2, ↓reduceIte, Bool.false_eq_true]; done) | (simp only [doG, h_1, h_2, ↓reduceIte, Bool.false_eq_true]; rfl) | (unfold doG; (repeat' split) <;> first | rfl | contradiction))))) (mmv0 (congrArg Value.int (by exact (nI_1 _).symm))) (ih5 (_) (by omega) (i + 1) (by omega) rfl)
  exact ab_pm4 mm2 (mmv3 (congrArg Value.int (by rfl))) (mmv1 (congrArg Value.int (by rfl))) (mmv0 (congrArg Value.int (by rfl))) (L5 _ 0 (by omega) rfl)
theorem cm_X11_digitsWithAhead {G : ab_G} (hG : ab_GG G) {c : CS} {M D : List ab_E} (hM : M.length = 1) {set : Int32} {nw : Nat} (hw : c.1 (10 + 0) = nI nw) (hw5 : nw ≤ 5)  : ab_CM G mX11_digitsWithAhead [.ref 0, .int set] (cH c M D) (some (.int (dwC nw set))) (cH c M D) := by
  refine ab_meth (l0 := [(0, .ref 0), (1, .int set)]) hG (by decide +kernel) rfl (Nat.le_of_ble_eq_true rfl) (Nat.le_refl _) (Nat.le_refl _) (fun X hX hF => ?_)
  refine ab_aload_n hX dX11_digitsWithAhead_0 mm0 ?_
  refine ab_iload_n hX dX11_digitsWithAhead_1 mm1 ?_
  refine ab_iconst (v := (-1)) hX dX11_digitsWithAhead_2 (by decide) ?_
  refine ab_ixor hX dX11_digitsWithAhead_3 ?_
  refine ab_aload_n hX dX11_digitsWithAhead_4 mm0 ?_
  refine ab_iload_n hX dX11_digitsWithAhead_5 mm1 ?_
  refine ab_iconst (v := 0) hX dX11_digitsWithAhead_6 (by decide) ?_
  refine ab_callV2r hX dX11_digitsWithAhead_7 cg_x ss_X11_digitsWithAhead_432 (cm_X11_digitsOf hG hM hw hw5) (Nat.le_of_ble_eq_true rfl) ?_
  refine ab_callV2r hX dX11_digitsWithAhead_10 cg_x ss_X11_digitsWithAhead_432 (cm_X11_digitsOf hG hM hw hw5) (Nat.le_of_ble_eq_true rfl) ?_
  exact ab_ireturn hX hF dX11_digitsWithAhead_13 rfl (by rfl) (congrArg some (congrArg Value.int (by rfl))) (by rfl)
theorem cm_X11_leastOrder {G : ab_G} (hG : ab_GG G) {c : CS} {M D : List ab_E} (hM : M.length = 1) {fewest : Int32} {nl : Nat} {ql : Nat → SY} (hL0 : cL c D (2 * 0) nl ql) {ns : Nat} {qs : Nat → SY} (hL1 : cL c D (2 * 0 + 1) ns qs) {nw : Nat} (hw : c.1 (10 + 0) = nI nw) (hw5 : nw ≤ 5)  : ab_CM G mX11_leastOrder [.ref 0, .int fewest] (cH c M D) (some (.int (leastC ql nl qs ns nw fewest))) (cH c M D) := by
  refine ab_meth (l0 := [(0, .ref 0), (1, .int fewest)]) hG (by decide +kernel) rfl (Nat.le_of_ble_eq_true rfl) (Nat.le_refl _) (Nat.le_refl _) (fun X hX hF => ?_)
  have h10 := hL0.2.1
  have h11 := hL1.2.1
  obtain ⟨P, hP⟩ : ∃ P, P = 2 ^ nw := ⟨_, rfl⟩
  have hp_ : P ≤ 1024 := hP ▸ pw2b (by omega)
  refine ab_bipush (v := (-4)) hX dX11_leastOrder_0 (by decide) ?_
  refine ab_istore_n hX dX11_leastOrder_2 rfl (by decide) rfl ?_
  refine ab_iconst (v := 0) hX dX11_leastOrder_3 (by decide) ?_
  refine ab_istore_n hX dX11_leastOrder_4 rfl (by decide) rfl ?_
  have L5 : ∀ (k5_ : Nat) (i : Nat) (hi_ : i ≤ P), k5_ = P - i → ab_WA G mX11_leastOrder X 5 [(0, .ref 0), (1, .int fewest), (2, .int (acc (loG ql nl qs ns nw fewest) (-4) i)), (3, .int (nI i))] [] (cH c M D) := by
    intro k5_
    induction k5_ using Nat.strongRecOn with
    | _ k5_ ih5 =>
      intro i hi_ hk5_
      refine ab_iload_n hX dX11_leastOrder_5 mm3 ?_
      refine ab_iconst (v := 1) hX dX11_leastOrder_6 (by decide) ?_
      refine ab_aload_n hX dX11_leastOrder_7 mm0 ?_
      refine ab_getfield hX dX11_leastOrder_8 (fs_X11_25_12 rfl) cg_x rfl ?_
      refine ab_getfield hX dX11_leastOrder_11 (fs_X11_179_11 rfl) (cg_tr (show 0 < 3 by decide)) rfl ?_
      refine ab_ishl hX dX11_leastOrder_14 ?_
      refine ab_icmpge (tgt := 68) hX dX11_leastOrder_15 (by decide) (fun h_1 => ?_) (fun h_1 => ?_)
      ·
        have hx_ := ctE (N := P) h_1 (by show (1 : Int32) <<< (c.1 (10 + 0) &&& 31) = _; rw [hw, hP]; exact pw2 _ (by omega)) (by omega) (by omega)
        obtain rfl : P = i := by omega
        refine ab_iload_n hX dX11_leastOrder_68 mm2 ?_
        exact ab_ireturn hX hF dX11_leastOrder_69 rfl (by rfl) (congrArg some (congrArg Value.int (by subst hP; rfl))) (by rfl)
      ·
        have hlt_ := ctL (N := P) h_1 (by show (1 : Int32) <<< (c.1 (10 + 0) &&& 31) = _; rw [hw, hP]; exact pw2 _ (by omega)) (by omega) (by omega)
        refine ab_iload_n hX dX11_leastOrder_18 mm3 ?_
        refine ab_callS1r hX dX11_leastOrder_19 ss_X11_leastOrder_224 (cm_J6_bitCount_0f7a4 hG) (Nat.le_of_ble_eq_true rfl) ?_
        refine ab_iload_n hX dX11_leastOrder_22 mm1 ?_
        refine ab_icmpne (tgt := 62) hX dX11_leastOrder_23 (by decide) (fun h_2 => ?_) (fun h_2 => ?_)
        ·
          refine ab_iinc hX dX11_leastOrder_62 mm3 rfl (by decide) rfl ?_
          refine ab_goto (tgt := 5) hX dX11_leastOrder_65 (by decide) ?_
          exact ab_pm4 mm1 (mmv2 (congrArg Value.int (by rfl))) (mmv3 (congrArg Value.int (by rw [acc_s]; try (first | rfl | (simp only [loG, h_1, h_2, ↓reduceIte, Bool.false_eq_true]; done) | (simp only [loG, h_1, h_2, ↓reduceIte, Bool.false_eq_true]; rfl) | (unfold loG; (repeat' split) <;> first | rfl | contradiction))))) (mmv0 (congrArg Value.int (by exact (nI_1 _).symm))) (ih5 (_) (by omega) (i + 1) (by omega) rfl)
        ·
          refine ab_aload_n hX dX11_leastOrder_26 mm0 ?_
          refine ab_getfield hX dX11_leastOrder_27 (fs_X11_25_12 rfl) cg_x rfl ?_
          refine ab_iload_n hX dX11_leastOrder_30 mm3 ?_
          refine ab_callV1r hX dX11_leastOrder_31 (cg_tr (show 0 < 3 by decide)) ss_X11_leastOrder_242 (cm_X10_isPlainBy hG hM (show 0 < 3 by decide) hL0 hL1) (Nat.le_of_ble_eq_true rfl) ?_
          refine ab_ifeqB (tgt := 62) hX dX11_leastOrder_34 (by decide) (fun h_3 => ?_) (fun h_3 => ?_)
          ·
            refine ab_iinc hX dX11_leastOrder_62 mm3 rfl (by decide) rfl ?_
            refine ab_goto (tgt := 5) hX dX11_leastOrder_65 (by decide) ?_
            exact ab_pm4 mm1 (mmv2 (congrArg Value.int (by rfl))) (mmv3 (congrArg Value.int (by rw [acc_s]; try (first | rfl | (simp only [loG, h_1, h_2, h_3, ↓reduceIte, Bool.false_eq_true]; done) | (simp only [loG, h_1, h_2, h_3, ↓reduceIte, Bool.false_eq_true]; rfl) | (unfold loG; (repeat' split) <;> first | rfl | contradiction))))) (mmv0 (congrArg Value.int (by exact (nI_1 _).symm))) (ih5 (_) (by omega) (i + 1) (by omega) rfl)
          ·
            refine ab_aload_n hX dX11_leastOrder_37 mm0 ?_
            refine ab_iload_n hX dX11_leastOrder_38 mm3 ?_
            refine ab_callV1r hX dX11_leastOrder_39 cg_x ss_X11_leastOrder_429 (cm_X11_digitsWithAhead hG hM hw hw5) (Nat.le_of_ble_eq_true rfl) ?_
            refine ab_istore hX dX11_leastOrder_42 (by decide) rfl ?_
            refine ab_iload_n hX dX11_leastOrder_44 mm3 ?_
            refine ab_bipush (v := (-4)) hX dX11_leastOrder_45 (by decide) ?_
            refine ab_icmpne (tgt := 55) hX dX11_leastOrder_47 (by decide) (fun h_4 => ?_) (fun h_4 => ?_)
            ·
              refine ab_iload_n hX dX11_leastOrder_55 mm3 ?_
              refine ab_iload hX dX11_leastOrder_56 mm0 ?_
              refine ab_mmin hX dX11_leastOrder_58 tw_661 (by decide) (Nat.le_of_ble_eq_true rfl) ?_
              refine ab_istore_n hX dX11_leastOrder_61 rfl (by decide) rfl ?_
              refine ab_iinc hX dX11_leastOrder_62 mm4 rfl (by decide) rfl ?_
              refine ab_goto (tgt := 5) hX dX11_leastOrder_65 (by decide) ?_
              exact ab_pm4 mm3 (mmv4 (congrArg Value.int (by rfl))) (mmv1 (congrArg Value.int (by rw [acc_s]; try (first | rfl | (simp only [loG, h_1, h_2, h_3, h_4, ↓reduceIte, Bool.false_eq_true]; done) | (simp only [loG, h_1, h_2, h_3, h_4, ↓reduceIte, Bool.false_eq_true]; rfl) | (unfold loG; (repeat' split) <;> first | rfl | contradiction))))) (mmv0 (congrArg Value.int (by exact (nI_1 _).symm))) (ih5 (_) (by omega) (i + 1) (by omega) rfl)
            ·
              refine ab_iload hX dX11_leastOrder_50 mm0 ?_
              refine ab_goto (tgt := 61) hX dX11_leastOrder_52 (by decide) ?_
              refine ab_istore_n hX dX11_leastOrder_61 rfl (by decide) rfl ?_
              refine ab_iinc hX dX11_leastOrder_62 mm4 rfl (by decide) rfl ?_
              refine ab_goto (tgt := 5) hX dX11_leastOrder_65 (by decide) ?_
              exact ab_pm4 mm3 (mmv4 (congrArg Value.int (by rfl))) (mmv1 (congrArg Value.int (by rw [acc_s]; try (first | rfl | (simp only [loG, h_1, h_2, h_3, h_4, ↓reduceIte, Bool.false_eq_true]; done) | (simp only [loG, h_1, h_2, h_3, h_4, ↓reduceIte, Bool.false_eq_true]; rfl) | (unfold loG; (repeat' split) <;> first | rfl | contradiction))))) (mmv0 (congrArg Value.int (by exact (nI_1 _).symm))) (ih5 (_) (by omega) (i + 1) (by omega) rfl)
  exact ab_pm4 mm2 (mmv3 (congrArg Value.int (by rfl))) (mmv1 (congrArg Value.int (by rfl))) (mmv0 (congrArg Value.int (by rfl))) (L5 _ 0 (by omega) rfl)
theorem cm_X11_order {G : ab_G} (hG : ab_GG G) {c : CS} {M D : List ab_E} (hM : M.length = 1) {what : Int32} {nl : Nat} {ql : Nat → SY} (hL0 : cL c D (2 * 0) nl ql) {ns : Nat} {qs : Nat → SY} (hL1 : cL c D (2 * 0 + 1) ns qs) {nw : Nat} (hw : c.1 (10 + 0) = nI nw) (hw5 : nw ≤ 5)  : ab_CM G mX11_order [.ref 0, .int what] (cH c M D) (some (.int (orderC c ql nl qs ns nw what))) (cH c M D) := by
  refine ab_meth (l0 := [(0, .ref 0), (1, .int what)]) hG (by decide +kernel) rfl (Nat.le_of_ble_eq_true rfl) (Nat.le_refl _) (Nat.le_refl _) (fun X hX hF => ?_)
  have h10 := hL0.2.1
  have h11 := hL1.2.1
  refine ab_iload_n hX dX11_order_0 mm1 ?_
  refine ab_callS1r hX dX11_order_1 ss_X11_order_182 (cm_X11_isEitherOr hG) (Nat.le_of_ble_eq_true rfl) ?_
  refine ab_ifneB (tgt := 9) hX dX11_order_4 (by decide) (fun h_1 => ?_) (fun h_1 => ?_)
  ·
    refine ab_aload_n hX dX11_order_9 mm0 ?_
    refine ab_getfield hX dX11_order_10 (fs_X11_25_12 rfl) cg_x rfl ?_
    refine ab_getfield hX dX11_order_13 (fs_X11_179_11 rfl) (cg_tr (show 0 < 3 by decide)) rfl ?_
    refine ab_ifne (tgt := 22) hX dX11_order_16 (by decide) (fun h_2 => ?_) (fun h_2 => ?_)
    ·
      refine ab_aload_n hX dX11_order_22 mm0 ?_
      refine ab_callV0r hX dX11_order_23 cg_x ss_X11_order_245 (cm_X11_plain hG hM hL0 hL1 hw hw5) (Nat.le_of_ble_eq_true rfl) ?_
      refine ab_istore_n hX dX11_order_26 rfl (by decide) rfl ?_
      refine ab_iload_n hX dX11_order_27 mm0 ?_
      refine ab_bipush (v := (-4)) hX dX11_order_28 (by decide) ?_
      refine ab_icmpne (tgt := 36) hX dX11_order_30 (by decide) (fun h_3 => ?_) (fun h_3 => ?_)
      ·
        refine ab_iload_n hX dX11_order_36 mm2 ?_
        refine ab_ifne (tgt := 47) hX dX11_order_37 (by decide) (fun h_4 => ?_) (fun h_4 => ?_)
        ·
          refine ab_aload_n hX dX11_order_47 mm1 ?_
          refine ab_iload_n hX dX11_order_48 mm0 ?_
          refine ab_callS1r hX dX11_order_49 ss_X11_order_224 (cm_J6_bitCount_0f7a4 hG) (Nat.le_of_ble_eq_true rfl) ?_
          refine ab_callV1r hX dX11_order_52 cg_x ss_X11_order_248 (cm_X11_leastOrder hG hM hL0 hL1 hw hw5) (Nat.le_of_ble_eq_true rfl) ?_
          exact ab_ireturn hX hF dX11_order_55 rfl (by rfl) (congrArg some (congrArg Value.int (by first | rfl | (simp only [orderC, h_1, h_2, h_3, h_4, ↓reduceIte, Bool.false_eq_true]; done) | (simp only [orderC, h_1, h_2, h_3, h_4, ↓reduceIte, Bool.false_eq_true]; rfl) | (unfold orderC; (repeat' split) <;> first | rfl | contradiction | (simp_all; done))))) (by rfl)
        ·
          refine ab_iload_n hX dX11_order_40 mm0 ?_
          refine ab_callS1r hX dX11_order_41 ss_X11_order_224 (cm_J6_bitCount_0f7a4 hG) (Nat.le_of_ble_eq_true rfl) ?_
          refine ab_goto (tgt := 55) hX dX11_order_44 (by decide) ?_
          exact ab_ireturn hX hF dX11_order_55 rfl (by rfl) (congrArg some (congrArg Value.int (by first | rfl | (simp only [orderC, h_1, h_2, h_3, h_4, ↓reduceIte, Bool.false_eq_true]; done) | (simp only [orderC, h_1, h_2, h_3, h_4, ↓reduceIte, Bool.false_eq_true]; rfl) | (unfold orderC; (repeat' split) <;> first | rfl | contradiction | (simp_all; done))))) (by rfl)
      ·
        refine ab_bipush (v := (-4)) hX dX11_order_33 (by decide) ?_
        exact ab_ireturn hX hF dX11_order_35 rfl (by rfl) (congrArg some (congrArg Value.int (by first | rfl | (simp only [orderC, h_1, h_2, h_3, ↓reduceIte, Bool.false_eq_true]; done) | (simp only [orderC, h_1, h_2, h_3, ↓reduceIte, Bool.false_eq_true]; rfl) | (unfold orderC; (repeat' split) <;> first | rfl | contradiction | (simp_all; done))))) (by rfl)
    ·
      refine ab_bipush (v := (-3)) hX dX11_order_19 (by decide) ?_
      exact ab_ireturn hX hF dX11_order_21 rfl (by rfl) (congrArg some (congrArg Value.int (by first | rfl | (simp only [orderC, h_1, h_2, ↓reduceIte, Bool.false_eq_true]; done) | (simp only [orderC, h_1, h_2, ↓reduceIte, Bool.false_eq_true]; rfl) | (unfold orderC; (repeat' split) <;> first | rfl | contradiction | (simp_all; done))))) (by rfl)
  ·
    refine ab_iconst (v := (-1)) hX dX11_order_7 (by decide) ?_
    exact ab_ireturn hX hF dX11_order_8 rfl (by rfl) (congrArg some (congrArg Value.int (by first | rfl | (simp only [orderC, h_1, ↓reduceIte, Bool.false_eq_true]; done) | (simp only [orderC, h_1, ↓reduceIte, Bool.false_eq_true]; rfl) | (unfold orderC; (repeat' split) <;> first | rfl | contradiction | (simp_all; done))))) (by rfl)
theorem cm_X11_without {G : ab_G} (hG : ab_GG G) {c : CS} {M D : List ab_E} (hM : M.length = 1) {w : Int32} {nl : Nat} {ql : Nat → SY} (hL0 : cL c D (2 * 0) nl ql) {ns : Nat} {qs : Nat → SY} (hL1 : cL c D (2 * 0 + 1) ns qs)  : ab_CM G mX11_without [.ref 0, .int w] (cH c M D) (some (.int (withC c ql nl qs ns w))) (cH c M D) := by
  refine ab_meth (l0 := [(0, .ref 0), (1, .int w)]) hG (by decide +kernel) rfl (Nat.le_of_ble_eq_true rfl) (Nat.le_refl _) (Nat.le_refl _) (fun X hX hF => ?_)
  have h10 := hL0.2.1
  have h11 := hL1.2.1
  refine ab_aload_n hX dX11_without_0 mm0 ?_
  refine ab_getfield hX dX11_without_1 (fs_X11_25_12 rfl) cg_x rfl ?_
  refine ab_iload_n hX dX11_without_4 mm1 ?_
  refine ab_callV1r hX dX11_without_5 (cg_tr (show 0 < 3 by decide)) ss_X11_without_128 (cm_X10_hasWitness hG hM (show 0 < 3 by decide)) (Nat.le_of_ble_eq_true rfl) ?_
  refine ab_ifneB (tgt := 13) hX dX11_without_8 (by decide) (fun h_1 => ?_) (fun h_1 => ?_)
  ·
    refine ab_aload_n hX dX11_without_13 mm0 ?_
    refine ab_getfield hX dX11_without_14 (fs_X11_25_12 rfl) cg_x rfl ?_
    refine ab_iconst (v := 1) hX dX11_without_17 (by decide) ?_
    refine ab_iload_n hX dX11_without_18 mm1 ?_
    refine ab_ishl hX dX11_without_19 ?_
    refine ab_iconst (v := (-1)) hX dX11_without_20 (by decide) ?_
    refine ab_ixor hX dX11_without_21 ?_
    refine ab_callV1r hX dX11_without_22 (cg_tr (show 0 < 3 by decide)) ss_X11_without_251 (cm_X10_leftByTellers hG hM (show 0 < 3 by decide) hL0 hL1) (Nat.le_of_ble_eq_true rfl) ?_
    refine ab_lstore_n hX dX11_without_25 rfl (by decide) rfl ?_
    refine ab_lload_n hX dX11_without_26 mm0 ?_
    refine ab_callS1r hX dX11_without_27 ss_X11_without_192 (cm_J13_bitCount_95d88 hG) (Nat.le_of_ble_eq_true rfl) ?_
    refine ab_aload_n hX dX11_without_30 mm1 ?_
    refine ab_getfield hX dX11_without_31 (fs_X11_25_12 rfl) cg_x rfl ?_
    refine ab_callV0r hX dX11_without_34 (cg_tr (show 0 < 3 by decide)) ss_X11_without_198 (cm_X10_left hG hM (show 0 < 3 by decide) hL0 hL1) (Nat.le_of_ble_eq_true rfl) ?_
    refine ab_callS1r hX dX11_without_37 ss_X11_without_192 (cm_J13_bitCount_95d88 hG) (Nat.le_of_ble_eq_true rfl) ?_
    refine ab_isub hX dX11_without_40 ?_
    exact ab_ireturn hX hF dX11_without_41 rfl (by rfl) (congrArg some (congrArg Value.int (by first | rfl | (simp only [withC, h_1, ↓reduceIte, Bool.false_eq_true]; done) | (simp only [withC, h_1, ↓reduceIte, Bool.false_eq_true]; rfl) | (unfold withC; (repeat' split) <;> first | rfl | contradiction | (simp_all; done))))) (by rfl)
  ·
    refine ab_iconst (v := (-1)) hX dX11_without_11 (by decide) ?_
    exact ab_ireturn hX hF dX11_without_12 rfl (by rfl) (congrArg some (congrArg Value.int (by first | rfl | (simp only [withC, h_1, ↓reduceIte, Bool.false_eq_true]; done) | (simp only [withC, h_1, ↓reduceIte, Bool.false_eq_true]; rfl) | (unfold withC; (repeat' split) <;> first | rfl | contradiction | (simp_all; done))))) (by rfl)
theorem cm_X11_tells {G : ab_G} (hG : ab_GG G) {c : CS} {M D : List ab_E} (hM : M.length = 1) {d : Int32} {a : Int32} {b : Int32} {nl : Nat} {ql : Nat → SY} (hL0 : cL c D (2 * 0) nl ql) {ns : Nat} {qs : Nat → SY} (hL1 : cL c D (2 * 0 + 1) ns qs) (hK : ∀ d, d < 8 → ∃ k, k < 8 ∧ c.2.2.2 (10 + d) = .ref (kR k))  : ab_CM G mX11_tells [.ref 0, .int d, .int a, .int b] (cH c M D) (some (.int (tellsC c (lfT ql nl qs ns) d a b))) (cH c M D) := by
  refine ab_meth (l0 := [(0, .ref 0), (1, .int d), (2, .int a), (3, .int b)]) hG (by decide +kernel) rfl (Nat.le_of_ble_eq_true rfl) (Nat.le_refl _) (Nat.le_refl _) (fun X hX hF => ?_)
  have h10 := hL0.2.1
  have h11 := hL1.2.1
  refine ab_aload_n hX dX11_tells_0 mm0 ?_
  refine ab_iload_n hX dX11_tells_1 mm1 ?_
  rcases sh_cases d with ⟨j, hj, rfl, hinc, jc⟩ | hno
  ·
    obtain ⟨kd, hkd, hkr⟩ := hK _ hj
    have hskc := skc_k hkr
    refine ab_callV1r hX dX11_tells_2 cg_x ss_X11_tells_75 (sh_ok hG hM hj) (Nat.le_of_ble_eq_true rfl) ?_
    refine ab_astore hX dX11_tells_5 (by decide) rfl ?_
    refine ab_aload hX dX11_tells_7 mm0 ?_
    refine ab_ifnull hX dX11_tells_9 ?_
    refine ab_iload_n hX dX11_tells_12 mm3 ?_
    refine ab_callS1r hX dX11_tells_13 ss_X11_tells_135 (cm_X11_isFact hG) (Nat.le_of_ble_eq_true rfl) ?_
    refine ab_ifeqB (tgt := 26) hX dX11_tells_16 (by decide) (fun h_1 => ?_) (fun h_1 => ?_)
    ·
      refine ab_iconst (v := (-1)) hX dX11_tells_26 (by decide) ?_
      exact ab_ireturn hX hF dX11_tells_27 rfl (by rfl) (congrArg some (congrArg Value.int (by first | rfl | (simp only [tellsC, shW, hskc, hinc, jc, h_1, ↓reduceIte, Bool.false_eq_true]; done) | (simp only [tellsC, shW, hskc, hinc, jc, h_1, ↓reduceIte, Bool.false_eq_true]; rfl) | (unfold tellsC; (repeat' split) <;> first | rfl | contradiction | (simp_all; done))))) (by rfl)
    ·
      refine ab_iload_n hX dX11_tells_19 mm4 ?_
      refine ab_callS1r hX dX11_tells_20 ss_X11_tells_135 (cm_X11_isFact hG) (Nat.le_of_ble_eq_true rfl) ?_
      refine ab_ifneB (tgt := 28) hX dX11_tells_23 (by decide) (fun h_2 => ?_) (fun h_2 => ?_)
      ·
        refine ab_aload hX dX11_tells_28 mm0 ?_
        refine ab_callV0r hX dX11_tells_30 (cg_sd hj) ss_X11_tells_141 (cm_X9_refusalAsSaying hG hM hj) (Nat.le_of_ble_eq_true rfl) ?_
        refine ab_istore hX dX11_tells_33 (by decide) rfl ?_
        refine ab_iload hX dX11_tells_35 mm0 ?_
        refine ab_ifeq (tgt := 45) hX dX11_tells_37 (by decide) (fun h_3 => ?_) (fun h_3 => ?_)
        ·
          refine ab_aload_n hX dX11_tells_45 mm2 ?_
          refine ab_getfield hX dX11_tells_46 (fs_X11_25_12 rfl) cg_x rfl ?_
          refine ab_callV0r hX dX11_tells_49 (cg_tr (show 0 < 3 by decide)) ss_X11_tells_198 (cm_X10_left hG hM (show 0 < 3 by decide) hL0 hL1) (Nat.le_of_ble_eq_true rfl) ?_
          refine ab_aload hX dX11_tells_52 mm1 ?_
          refine ab_iload_n hX dX11_tells_54 mm4 ?_
          refine ab_iload_n hX dX11_tells_55 mm5 ?_
          refine ab_callV2r hX dX11_tells_56 (cg_sd hj) ss_X11_tells_144 (cm_X9_worldsOf hG hM hj hkd hkr) (Nat.le_of_ble_eq_true rfl) ?_
          refine ab_land hX dX11_tells_59 ?_
          refine ab_callS1r hX dX11_tells_60 ss_X11_tells_192 (cm_J13_bitCount_95d88 hG) (Nat.le_of_ble_eq_true rfl) ?_
          exact ab_ireturn hX hF dX11_tells_63 rfl (by rfl) (congrArg some (congrArg Value.int (by first | rfl | (simp only [tellsC, shW, hskc, hinc, jc, h_1, h_2, h_3, ↓reduceIte, Bool.false_eq_true]; done) | (simp only [tellsC, shW, hskc, hinc, jc, h_1, h_2, h_3, ↓reduceIte, Bool.false_eq_true]; rfl) | (unfold tellsC; (repeat' split) <;> first | rfl | contradiction | (simp_all; done))))) (by rfl)
        ·
          refine ab_iload hX dX11_tells_40 mm0 ?_
          refine ab_goto (tgt := 63) hX dX11_tells_42 (by decide) ?_
          exact ab_ireturn hX hF dX11_tells_63 rfl (by rfl) (congrArg some (congrArg Value.int (by first | rfl | (simp only [tellsC, shW, hskc, hinc, jc, h_1, h_2, h_3, ↓reduceIte, Bool.false_eq_true]; done) | (simp only [tellsC, shW, hskc, hinc, jc, h_1, h_2, h_3, ↓reduceIte, Bool.false_eq_true]; rfl) | (unfold tellsC; (repeat' split) <;> first | rfl | contradiction | (simp_all; done))))) (by rfl)
      ·
        refine ab_iconst (v := (-1)) hX dX11_tells_26 (by decide) ?_
        exact ab_ireturn hX hF dX11_tells_27 rfl (by rfl) (congrArg some (congrArg Value.int (by first | rfl | (simp only [tellsC, shW, hskc, hinc, jc, h_1, h_2, ↓reduceIte, Bool.false_eq_true]; done) | (simp only [tellsC, shW, hskc, hinc, jc, h_1, h_2, ↓reduceIte, Bool.false_eq_true]; rfl) | (unfold tellsC; (repeat' split) <;> first | rfl | contradiction | (simp_all; done))))) (by rfl)
  ·
    refine ab_callV1r hX dX11_tells_2 cg_x ss_X11_tells_75 (sh_no hG hM hno) (Nat.le_of_ble_eq_true rfl) ?_
    refine ab_astoreN hX dX11_tells_5 (by decide) rfl ?_
    refine ab_aloadN hX dX11_tells_7 mm0 ?_
    refine ab_ifnullN (tgt := 26) hX dX11_tells_9 (by decide) ?_
    refine ab_iconst (v := (-1)) hX dX11_tells_26 (by decide) ?_
    exact ab_ireturn hX hF dX11_tells_27 rfl (by rfl) (congrArg some (congrArg Value.int (by first | rfl | (simp only [tellsC, shW, hskc, hno, ↓reduceIte, Bool.false_eq_true]; done) | (simp only [tellsC, shW, hskc, hno, ↓reduceIte, Bool.false_eq_true]; rfl) | (unfold tellsC; (repeat' split) <;> first | rfl | contradiction | (simp_all; done))))) (by rfl)
theorem cm_X11_verdict {G : ab_G} (hG : ab_GG G) {c : CS} {M D : List ab_E} (hM : M.length = 1)  {ns : Nat} {qs : Nat → SY} (hL1 : cL c D (2 * 0 + 1) ns qs)  : ab_CM G mX11_verdict [.ref 0] (cH c M D) (some (.int (acc (vdG qs) (c.1 (20 + 0)) ns))) (cH c M D) := by
  refine ab_meth (l0 := [(0, .ref 0)]) hG (by decide +kernel) rfl (Nat.le_of_ble_eq_true rfl) (Nat.le_refl _) (Nat.le_refl _) (fun X hX hF => ?_)
  have h11 := hL1.2.1
  refine ab_aload_n hX dX11_verdict_0 mm0 ?_
  refine ab_getfield hX dX11_verdict_1 (fs_X11_25_12 rfl) cg_x rfl ?_
  refine ab_getfield hX dX11_verdict_4 (fs_X11_114_11 rfl) (cg_tr (show 0 < 3 by decide)) rfl ?_
  refine ab_istore_n hX dX11_verdict_7 rfl (by decide) rfl ?_
  refine ab_iconst (v := 0) hX dX11_verdict_8 (by decide) ?_
  refine ab_istore_n hX dX11_verdict_9 rfl (by decide) rfl ?_
  have L10 : ∀ (k10_ : Nat) (i : Nat) (hi_ : i ≤ ns), k10_ = ns - i → ab_WA G mX11_verdict X 10 [(0, .ref 0), (1, .int (acc (vdG qs) (c.1 (20 + 0)) i)), (2, .int (nI i))] [] (cH c M D) := by
    intro k10_
    induction k10_ using Nat.strongRecOn with
    | _ k10_ ih10 =>
      intro i hi_ hk10_
      refine ab_iload_n hX dX11_verdict_10 mm2 ?_
      refine ab_aload_n hX dX11_verdict_11 mm0 ?_
      refine ab_getfield hX dX11_verdict_12 (fs_X11_25_12 rfl) cg_x rfl ?_
      refine ab_getfield hX dX11_verdict_15 (fs_X11_107_11 rfl) (cg_tr (show 0 < 3 by decide)) rfl ?_
      refine ab_callV0r hX dX11_verdict_18 (cg_al (by omega)) ss_X11_verdict_163 (cm_Jx4a65c_size_8abf5 hG (cg_al (by omega))) (Nat.le_of_ble_eq_true rfl) ?_
      refine ab_icmpge (tgt := 52) hX dX11_verdict_21 (by decide) (fun h_1 => ?_) (fun h_1 => ?_)
      ·
        have hx_ := ctE (N := ns) h_1 (by exact hL1.1) (by omega) (by omega)
        obtain rfl : ns = i := by omega
        refine ab_iload_n hX dX11_verdict_52 mm1 ?_
        exact ab_ireturn hX hF dX11_verdict_53 rfl (by rfl) (congrArg some (congrArg Value.int (by rfl))) (by rfl)
      ·
        have hlt_ := ctL (N := ns) h_1 (by exact hL1.1) (by omega) (by omega)
        refine ab_iload_n hX dX11_verdict_24 mm1 ?_
        refine ab_aload_n hX dX11_verdict_25 mm0 ?_
        refine ab_getfield hX dX11_verdict_26 (fs_X11_25_12 rfl) cg_x rfl ?_
        refine ab_getfield hX dX11_verdict_29 (fs_X11_107_11 rfl) (cg_tr (show 0 < 3 by decide)) rfl ?_
        refine ab_iload_n hX dX11_verdict_32 mm2 ?_
        obtain ⟨r_, hr_, hc_⟩ := cL_read hG (M := M) hM (i := i) (by omega) hL1 (by omega)
        refine ab_callV1r hX dX11_verdict_33 (cg_al (by omega)) ss_X11_verdict_221 hc_ (Nat.le_of_ble_eq_true rfl) ?_
        refine ab_castS hX dX11_verdict_36 (cD_get hM hr_) rfl tw_359 ?_
        refine ab_callV0r hX dX11_verdict_39 (cD_get hM hr_) ss_X11_verdict_281 (cm_X7_facts hG hM (cD_get hM hr_) (hL1.2.2.2 _ (by omega))) (Nat.le_of_ble_eq_true rfl) ?_
        refine ab_iconst (v := (-1)) hX dX11_verdict_42 (by decide) ?_
        refine ab_ixor hX dX11_verdict_43 ?_
        refine ab_iand hX dX11_verdict_44 ?_
        refine ab_istore_n hX dX11_verdict_45 rfl (by decide) rfl ?_
        refine ab_iinc hX dX11_verdict_46 mm2 rfl (by decide) rfl ?_
        refine ab_goto (tgt := 10) hX dX11_verdict_49 (by decide) ?_
        exact ab_pm3 mm2 (mmv1 (congrArg Value.int (by rw [acc_s]; try (first | rfl | (simp only [vdG, h_1, ↓reduceIte, Bool.false_eq_true]; done) | (simp only [vdG, h_1, ↓reduceIte, Bool.false_eq_true]; rfl) | (unfold vdG; (repeat' split) <;> first | rfl | contradiction))))) (mmv0 (congrArg Value.int (by exact (nI_1 _).symm))) (ih10 (_) (by omega) (i + 1) (by omega) rfl)
  exact ab_pm3 mm2 (mmv1 (congrArg Value.int (by rfl))) (mmv0 (congrArg Value.int (by rfl))) (L10 _ 0 (by omega) rfl)
theorem cm_X11_certain {G : ab_G} (hG : ab_GG G) {c : CS} {M D : List ab_E} (hM : M.length = 1) {w : Int32} {nl : Nat} {ql : Nat → SY} (hL0 : cL c D (2 * 0) nl ql) {ns : Nat} {qs : Nat → SY} (hL1 : cL c D (2 * 0 + 1) ns qs)  : ab_CM G mX11_certain [.ref 0, .int w] (cH c M D) (some (.int (certC c (lfT ql nl qs ns) w))) (cH c M D) := by
  refine ab_meth (l0 := [(0, .ref 0), (1, .int w)]) hG (by decide +kernel) rfl (Nat.le_of_ble_eq_true rfl) (Nat.le_refl _) (Nat.le_refl _) (fun X hX hF => ?_)
  have h10 := hL0.2.1
  have h11 := hL1.2.1
  refine ab_aload_n hX dX11_certain_0 mm0 ?_
  refine ab_getfield hX dX11_certain_1 (fs_X11_25_12 rfl) cg_x rfl ?_
  refine ab_iload_n hX dX11_certain_4 mm1 ?_
  refine ab_callV1r hX dX11_certain_5 (cg_tr (show 0 < 3 by decide)) ss_X11_certain_128 (cm_X10_hasWitness hG hM (show 0 < 3 by decide)) (Nat.le_of_ble_eq_true rfl) ?_
  refine ab_ifneB (tgt := 13) hX dX11_certain_8 (by decide) (fun h_1 => ?_) (fun h_1 => ?_)
  ·
    refine ab_aload_n hX dX11_certain_13 mm0 ?_
    refine ab_getfield hX dX11_certain_14 (fs_X11_25_12 rfl) cg_x rfl ?_
    refine ab_callV0r hX dX11_certain_17 (cg_tr (show 0 < 3 by decide)) ss_X11_certain_198 (cm_X10_left hG hM (show 0 < 3 by decide) hL0 hL1) (Nat.le_of_ble_eq_true rfl) ?_
    refine ab_aload_n hX dX11_certain_20 mm0 ?_
    refine ab_getfield hX dX11_certain_21 (fs_X11_25_12 rfl) cg_x rfl ?_
    refine ab_getfield hX dX11_certain_24 (fs_X11_114_11 rfl) (cg_tr (show 0 < 3 by decide)) rfl ?_
    refine ab_aload_n hX dX11_certain_27 mm0 ?_
    refine ab_getfield hX dX11_certain_28 (fs_X11_25_12 rfl) cg_x rfl ?_
    refine ab_iload_n hX dX11_certain_31 mm1 ?_
    refine ab_callV1r hX dX11_certain_32 (cg_tr (show 0 < 3 by decide)) ss_X11_certain_132 (cm_X10_knownBy hG hM (show 0 < 3 by decide)) (Nat.le_of_ble_eq_true rfl) ?_
    refine ab_callS3r hX dX11_certain_35 ss_X11_certain_284 (cm_X11_likeInKnown hG) (Nat.le_of_ble_eq_true rfl) ?_
    refine ab_callS1r hX dX11_certain_38 ss_X11_certain_288 (cm_X11_factsAlike hG) (Nat.le_of_ble_eq_true rfl) ?_
    exact ab_ireturn hX hF dX11_certain_41 rfl (by rfl) (congrArg some (congrArg Value.int (by first | rfl | (simp only [certC, h_1, ↓reduceIte, Bool.false_eq_true]; done) | (simp only [certC, h_1, ↓reduceIte, Bool.false_eq_true]; rfl) | (unfold certC; (repeat' split) <;> first | rfl | contradiction | (simp_all; done))))) (by rfl)
  ·
    refine ab_iconst (v := (-1)) hX dX11_certain_11 (by decide) ?_
    exact ab_ireturn hX hF dX11_certain_12 rfl (by rfl) (congrArg some (congrArg Value.int (by first | rfl | (simp only [certC, h_1, ↓reduceIte, Bool.false_eq_true]; done) | (simp only [certC, h_1, ↓reduceIte, Bool.false_eq_true]; rfl) | (unfold certC; (repeat' split) <;> first | rfl | contradiction | (simp_all; done))))) (by rfl)
theorem cm_X11_knowsOf {G : ab_G} (hG : ab_GG G) {c : CS} {M D : List ab_E} (hM : M.length = 1) {one : Int32} {other : Int32} {nl : Nat} {ql : Nat → SY} (hL0 : cL c D (2 * 0) nl ql) {ns : Nat} {qs : Nat → SY} (hL1 : cL c D (2 * 0 + 1) ns qs)  : ab_CM G mX11_knowsOf [.ref 0, .int one, .int other] (cH c M D) (some (.int (knofC c (lfT ql nl qs ns) one other))) (cH c M D) := by
  refine ab_meth (l0 := [(0, .ref 0), (1, .int one), (2, .int other)]) hG (by decide +kernel) rfl (Nat.le_of_ble_eq_true rfl) (Nat.le_refl _) (Nat.le_refl _) (fun X hX hF => ?_)
  have h10 := hL0.2.1
  have h11 := hL1.2.1
  refine ab_aload_n hX dX11_knowsOf_0 mm0 ?_
  refine ab_getfield hX dX11_knowsOf_1 (fs_X11_25_12 rfl) cg_x rfl ?_
  refine ab_iload_n hX dX11_knowsOf_4 mm1 ?_
  refine ab_callV1r hX dX11_knowsOf_5 (cg_tr (show 0 < 3 by decide)) ss_X11_knowsOf_128 (cm_X10_hasWitness hG hM (show 0 < 3 by decide)) (Nat.le_of_ble_eq_true rfl) ?_
  refine ab_ifeqB (tgt := 22) hX dX11_knowsOf_8 (by decide) (fun h_1 => ?_) (fun h_1 => ?_)
  ·
    refine ab_iconst (v := (-1)) hX dX11_knowsOf_22 (by decide) ?_
    exact ab_ireturn hX hF dX11_knowsOf_23 rfl (by rfl) (congrArg some (congrArg Value.int (by first | rfl | (simp only [knofC, h_1, ↓reduceIte, Bool.false_eq_true]; done) | (simp only [knofC, h_1, ↓reduceIte, Bool.false_eq_true]; rfl) | (unfold knofC; (repeat' split) <;> first | rfl | contradiction | (simp_all; done))))) (by rfl)
  ·
    refine ab_aload_n hX dX11_knowsOf_11 mm0 ?_
    refine ab_getfield hX dX11_knowsOf_12 (fs_X11_25_12 rfl) cg_x rfl ?_
    refine ab_iload_n hX dX11_knowsOf_15 mm2 ?_
    refine ab_callV1r hX dX11_knowsOf_16 (cg_tr (show 0 < 3 by decide)) ss_X11_knowsOf_128 (cm_X10_hasWitness hG hM (show 0 < 3 by decide)) (Nat.le_of_ble_eq_true rfl) ?_
    refine ab_ifneB (tgt := 24) hX dX11_knowsOf_19 (by decide) (fun h_2 => ?_) (fun h_2 => ?_)
    ·
      refine ab_aload_n hX dX11_knowsOf_24 mm0 ?_
      refine ab_getfield hX dX11_knowsOf_25 (fs_X11_25_12 rfl) cg_x rfl ?_
      refine ab_callV0r hX dX11_knowsOf_28 (cg_tr (show 0 < 3 by decide)) ss_X11_knowsOf_198 (cm_X10_left hG hM (show 0 < 3 by decide) hL0 hL1) (Nat.le_of_ble_eq_true rfl) ?_
      refine ab_lstore_n hX dX11_knowsOf_31 rfl (by decide) rfl ?_
      refine ab_lload_n hX dX11_knowsOf_32 mm0 ?_
      refine ab_aload_n hX dX11_knowsOf_33 mm1 ?_
      refine ab_getfield hX dX11_knowsOf_34 (fs_X11_25_12 rfl) cg_x rfl ?_
      refine ab_getfield hX dX11_knowsOf_37 (fs_X11_114_11 rfl) (cg_tr (show 0 < 3 by decide)) rfl ?_
      refine ab_aload_n hX dX11_knowsOf_40 mm1 ?_
      refine ab_getfield hX dX11_knowsOf_41 (fs_X11_25_12 rfl) cg_x rfl ?_
      refine ab_iload_n hX dX11_knowsOf_44 mm2 ?_
      refine ab_callV1r hX dX11_knowsOf_45 (cg_tr (show 0 < 3 by decide)) ss_X11_knowsOf_132 (cm_X10_knownBy hG hM (show 0 < 3 by decide)) (Nat.le_of_ble_eq_true rfl) ?_
      refine ab_callS3r hX dX11_knowsOf_48 ss_X11_knowsOf_284 (cm_X11_likeInKnown hG) (Nat.le_of_ble_eq_true rfl) ?_
      refine ab_lstore hX dX11_knowsOf_51 (by decide) rfl ?_
      refine ab_bipush (v := 63) hX dX11_knowsOf_53 (by decide) ?_
      refine ab_istore hX dX11_knowsOf_55 (by decide) rfl ?_
      refine ab_iconst (v := 0) hX dX11_knowsOf_57 (by decide) ?_
      refine ab_istore hX dX11_knowsOf_58 (by decide) rfl ?_
      have L60 : ∀ (k60_ : Nat) (i : Nat) (hi_ : i ≤ 64), k60_ = 64 - i → ab_WA G mX11_knowsOf X 60 [(0, .ref 0), (2, .int other), (3, .long (lfT ql nl qs ns)), (5, .long (lkI (lfT ql nl qs ns) (c.1 (20 + 0)) (kbT c 0 one))), (7, .int (acc (koG c (lfT ql nl qs ns) (lkI (lfT ql nl qs ns) (c.1 (20 + 0)) (kbT c 0 one)) other) 63 i)), (8, .int (nI i))] [] (cH c M D) := by
        intro k60_
        induction k60_ using Nat.strongRecOn with
        | _ k60_ ih60 =>
          intro i hi_ hk60_
          refine ab_iload hX dX11_knowsOf_60 mm5 ?_
          refine ab_bipush (v := 64) hX dX11_knowsOf_62 (by decide) ?_
          refine ab_icmpge (tgt := 105) hX dX11_knowsOf_64 (by decide) (fun h_3 => ?_) (fun h_3 => ?_)
          ·
            have hx_ := ctE (N := 64) h_3 (by rfl) (by omega) (by omega)
            obtain rfl : 64 = i := by omega
            refine ab_iload hX dX11_knowsOf_105 mm4 ?_
            exact ab_ireturn hX hF dX11_knowsOf_107 rfl (by rfl) (congrArg some (congrArg Value.int (by first | rfl | (simp only [knofC, h_1, h_2, h_3, ↓reduceIte, Bool.false_eq_true]; done) | (simp only [knofC, h_1, h_2, h_3, ↓reduceIte, Bool.false_eq_true]; rfl) | (unfold knofC; (repeat' split) <;> first | rfl | contradiction | (simp_all; done))))) (by rfl)
          ·
            have hlt_ := ctL (N := 64) h_3 (by rfl) (by omega) (by omega)
            refine ab_lload hX dX11_knowsOf_67 mm3 ?_
            refine ab_iload hX dX11_knowsOf_69 mm5 ?_
            refine ab_callS2r hX dX11_knowsOf_71 ss_X11_knowsOf_117 (cm_X11_hasWorld hG) (Nat.le_of_ble_eq_true rfl) ?_
            refine ab_ifeqB (tgt := 99) hX dX11_knowsOf_74 (by decide) (fun h_4 => ?_) (fun h_4 => ?_)
            ·
              refine ab_iinc hX dX11_knowsOf_99 mm5 rfl (by decide) rfl ?_
              refine ab_goto (tgt := 60) hX dX11_knowsOf_102 (by decide) ?_
              exact ab_pm6 mm1 (mmv2 (congrArg Value.int (by rfl))) (mmv3 (congrArg Value.long (by rfl))) (mmv4 (congrArg Value.long (by rfl))) (mmv5 (congrArg Value.int (by rw [acc_s]; try (first | rfl | (simp only [koG, h_1, h_2, h_3, h_4, ↓reduceIte, Bool.false_eq_true]; done) | (simp only [koG, h_1, h_2, h_3, h_4, ↓reduceIte, Bool.false_eq_true]; rfl) | (unfold koG; (repeat' split) <;> first | rfl | contradiction))))) (mmv0 (congrArg Value.int (by exact (nI_1 _).symm))) (ih60 (_) (by omega) (i + 1) (by omega) rfl)
            ·
              refine ab_iload hX dX11_knowsOf_77 mm4 ?_
              refine ab_lload_n hX dX11_knowsOf_79 mm2 ?_
              refine ab_iload hX dX11_knowsOf_80 mm5 ?_
              refine ab_aload_n hX dX11_knowsOf_82 mm0 ?_
              refine ab_getfield hX dX11_knowsOf_83 (fs_X11_25_12 rfl) cg_x rfl ?_
              refine ab_iload_n hX dX11_knowsOf_86 mm1 ?_
              refine ab_callV1r hX dX11_knowsOf_87 (cg_tr (show 0 < 3 by decide)) ss_X11_knowsOf_132 (cm_X10_knownBy hG hM (show 0 < 3 by decide)) (Nat.le_of_ble_eq_true rfl) ?_
              refine ab_callS3r hX dX11_knowsOf_90 ss_X11_knowsOf_284 (cm_X11_likeInKnown hG) (Nat.le_of_ble_eq_true rfl) ?_
              refine ab_callS1r hX dX11_knowsOf_93 ss_X11_knowsOf_288 (cm_X11_factsAlike hG) (Nat.le_of_ble_eq_true rfl) ?_
              refine ab_iand hX dX11_knowsOf_96 ?_
              refine ab_istore hX dX11_knowsOf_97 (by decide) rfl ?_
              refine ab_iinc hX dX11_knowsOf_99 mm5 rfl (by decide) rfl ?_
              refine ab_goto (tgt := 60) hX dX11_knowsOf_102 (by decide) ?_
              exact ab_pm6 mm2 (mmv3 (congrArg Value.int (by rfl))) (mmv4 (congrArg Value.long (by rfl))) (mmv5 (congrArg Value.long (by rfl))) (mmv1 (congrArg Value.int (by rw [acc_s]; try (first | rfl | (simp only [koG, h_1, h_2, h_3, h_4, ↓reduceIte, Bool.false_eq_true]; done) | (simp only [koG, h_1, h_2, h_3, h_4, ↓reduceIte, Bool.false_eq_true]; rfl) | (unfold koG; (repeat' split) <;> first | rfl | contradiction))))) (mmv0 (congrArg Value.int (by exact (nI_1 _).symm))) (ih60 (_) (by omega) (i + 1) (by omega) rfl)
      exact ab_pm6 mm4 (mmv6 (congrArg Value.int (by rfl))) (mmv3 (congrArg Value.long (by rfl))) (mmv2 (congrArg Value.long (by rfl))) (mmv1 (congrArg Value.int (by rfl))) (mmv0 (congrArg Value.int (by rfl))) (L60 _ 0 (by omega) rfl)
    ·
      refine ab_iconst (v := (-1)) hX dX11_knowsOf_22 (by decide) ?_
      exact ab_ireturn hX hF dX11_knowsOf_23 rfl (by rfl) (congrArg some (congrArg Value.int (by first | rfl | (simp only [knofC, h_1, h_2, ↓reduceIte, Bool.false_eq_true]; done) | (simp only [knofC, h_1, h_2, ↓reduceIte, Bool.false_eq_true]; rfl) | (unfold knofC; (repeat' split) <;> first | rfl | contradiction | (simp_all; done))))) (by rfl)
theorem cm_X11_allKnow {G : ab_G} (hG : ab_GG G) {c : CS} {M D : List ab_E} (hM : M.length = 1) {n : Int32} {nl : Nat} {ql : Nat → SY} (hL0 : cL c D (2 * 0) nl ql) {ns : Nat} {qs : Nat → SY} (hL1 : cL c D (2 * 0 + 1) ns qs) {nw : Nat} (hw : c.1 (10 + 0) = nI nw) (hw5 : nw ≤ 5)  : ab_CM G mX11_allKnow [.ref 0, .int n] (cH c M D) (some (.int (alkC c nw (lfT ql nl qs ns) n))) (cH c M D) := by
  refine ab_meth (l0 := [(0, .ref 0), (1, .int n)]) hG (by decide +kernel) rfl (Nat.le_of_ble_eq_true rfl) (Nat.le_refl _) (Nat.le_refl _) (fun X hX hF => ?_)
  have h10 := hL0.2.1
  have h11 := hL1.2.1
  refine ab_iload_n hX dX11_allKnow_0 mm1 ?_
  refine ab_iflt (tgt := 9) hX dX11_allKnow_1 (by decide) (fun h_1 => ?_) (fun h_1 => ?_)
  ·
    have hwc := iwF1 (hi := 5) h_1
    refine ab_iconst (v := (-1)) hX dX11_allKnow_9 (by decide) ?_
    exact ab_ireturn hX hF dX11_allKnow_10 rfl (by rfl) (congrArg some (congrArg Value.int (by first | rfl | (simp only [alkC, h_1, hwc, ↓reduceIte, Bool.false_eq_true]; done) | (simp only [alkC, h_1, hwc, ↓reduceIte, Bool.false_eq_true]; rfl) | (unfold alkC; (repeat' split) <;> first | rfl | contradiction | (simp_all; done))))) (by rfl)
  ·
    refine ab_iload_n hX dX11_allKnow_4 mm1 ?_
    refine ab_iconst (v := 5) hX dX11_allKnow_5 (by decide) ?_
    refine ab_icmple (tgt := 11) hX dX11_allKnow_6 (by decide) (fun h_2 => ?_) (fun h_2 => ?_)
    ·
      have hwc := iwT ‹¬ n < 0› h_2
      obtain ⟨m, hm, rfl⟩ := iw6 hwc
      have hmc := tn_nI (j := m) (by omega)
      refine ab_aload_n hX dX11_allKnow_11 mm0 ?_
      refine ab_getfield hX dX11_allKnow_12 (fs_X11_25_12 rfl) cg_x rfl ?_
      refine ab_getfield hX dX11_allKnow_15 (fs_X11_179_11 rfl) (cg_tr (show 0 < 3 by decide)) rfl ?_
      refine ab_ifne (tgt := 24) hX dX11_allKnow_18 (by decide) (fun h_3 => ?_) (fun h_3 => ?_)
      ·
        refine ab_aload_n hX dX11_allKnow_24 mm0 ?_
        refine ab_getfield hX dX11_allKnow_25 (fs_X11_25_12 rfl) cg_x rfl ?_
        refine ab_callV0r hX dX11_allKnow_28 (cg_tr (show 0 < 3 by decide)) ss_X11_allKnow_198 (cm_X10_left hG hM (show 0 < 3 by decide) hL0 hL1) (Nat.le_of_ble_eq_true rfl) ?_
        refine ab_lstore_n hX dX11_allKnow_31 rfl (by decide) rfl ?_
        refine ab_lconst (v := 1) hX dX11_allKnow_32 rfl ?_
        refine ab_aload_n hX dX11_allKnow_33 mm1 ?_
        refine ab_getfield hX dX11_allKnow_34 (fs_X11_25_12 rfl) cg_x rfl ?_
        refine ab_getfield hX dX11_allKnow_37 (fs_X11_114_11 rfl) (cg_tr (show 0 < 3 by decide)) rfl ?_
        refine ab_lshl hX dX11_allKnow_40 ?_
        refine ab_lstore hX dX11_allKnow_41 (by decide) rfl ?_
        refine ab_iconst (v := 0) hX dX11_allKnow_43 (by decide) ?_
        refine ab_istore hX dX11_allKnow_44 (by decide) rfl ?_
        have L46 : ∀ (k46_ : Nat) (i : Nat) (hi_ : i ≤ (m + 1)), k46_ = (m + 1) - i → ab_WA G mX11_allKnow X 46 [(0, .ref 0), (1, .int (nI m)), (2, .long (lfT ql nl qs ns)), (4, .long (acc (alG c nw (lfT ql nl qs ns)) ((1 : Int64) <<< ((c.1 (20 + 0)).toInt64 &&& 63)) i)), (6, .int (nI i))] [] (cH c M D) := by
          intro k46_
          induction k46_ using Nat.strongRecOn with
          | _ k46_ ih46 =>
            intro i hi_ hk46_
            refine ab_iload hX dX11_allKnow_46 mm4 ?_
            refine ab_iload_n hX dX11_allKnow_48 mm1 ?_
            refine ab_icmpgt (tgt := 70) hX dX11_allKnow_49 (by decide) (fun h_4 => ?_) (fun h_4 => ?_)
            ·
              have hx_ : m < i := (nI_ltI (by omega) (by omega)).mp h_4
              obtain rfl : i = m + 1 := by omega
              refine ab_lload hX dX11_allKnow_70 mm3 ?_
              refine ab_callS1r hX dX11_allKnow_72 ss_X11_allKnow_288 (cm_X11_factsAlike hG) (Nat.le_of_ble_eq_true rfl) ?_
              exact ab_ireturn hX hF dX11_allKnow_75 rfl (by rfl) (congrArg some (congrArg Value.int (by first | rfl | (simp only [alkC, h_1, h_2, hwc, hmc, h_3, h_4, ↓reduceIte, Bool.false_eq_true]; done) | (simp only [alkC, h_1, h_2, hwc, hmc, h_3, h_4, ↓reduceIte, Bool.false_eq_true]; rfl) | (unfold alkC; (repeat' split) <;> first | rfl | contradiction | (simp_all; done))))) (by rfl)
            ·
              have hlt_ : ¬ m < i := fun q => h_4 ((nI_ltI (by omega) (by omega)).mpr q)
              refine ab_aload_n hX dX11_allKnow_52 mm0 ?_
              refine ab_getfield hX dX11_allKnow_53 (fs_X11_25_12 rfl) cg_x rfl ?_
              refine ab_lload hX dX11_allKnow_56 mm3 ?_
              refine ab_lload_n hX dX11_allKnow_58 mm2 ?_
              refine ab_callV2r hX dX11_allKnow_59 (cg_tr (show 0 < 3 by decide)) ss_X11_allKnow_291 (cm_X10_reachedFrom hG hM (show 0 < 3 by decide) hw hw5) (Nat.le_of_ble_eq_true rfl) ?_
              refine ab_lstore hX dX11_allKnow_62 (by decide) rfl ?_
              refine ab_iinc hX dX11_allKnow_64 mm4 rfl (by decide) rfl ?_
              refine ab_goto (tgt := 46) hX dX11_allKnow_67 (by decide) ?_
              exact ab_pm5 mm2 (mmv3 (congrArg Value.int (by rfl))) (mmv4 (congrArg Value.long (by rfl))) (mmv1 (congrArg Value.long (by rw [acc_s (alG c nw _)]; rfl))) (mmv0 (congrArg Value.int (by exact (nI_1 _).symm))) (ih46 (_) (by omega) (i + 1) (by omega) rfl)
        exact ab_pm5 mm3 (mmv4 (congrArg Value.int (by rfl))) (mmv2 (congrArg Value.long (by rfl))) (mmv1 (congrArg Value.long (by rfl))) (mmv0 (congrArg Value.int (by rfl))) (L46 _ 0 (by omega) rfl)
      ·
        refine ab_bipush (v := (-3)) hX dX11_allKnow_21 (by decide) ?_
        exact ab_ireturn hX hF dX11_allKnow_23 rfl (by rfl) (congrArg some (congrArg Value.int (by first | rfl | (simp only [alkC, h_1, h_2, hwc, hmc, h_3, ↓reduceIte, Bool.false_eq_true]; done) | (simp only [alkC, h_1, h_2, hwc, hmc, h_3, ↓reduceIte, Bool.false_eq_true]; rfl) | (unfold alkC; (repeat' split) <;> first | rfl | contradiction | (simp_all; done))))) (by rfl)
    ·
      have hwc := iwF2 (lo := 0) h_2
      refine ab_iconst (v := (-1)) hX dX11_allKnow_9 (by decide) ?_
      exact ab_ireturn hX hF dX11_allKnow_10 rfl (by rfl) (congrArg some (congrArg Value.int (by first | rfl | (simp only [alkC, h_1, h_2, hwc, ↓reduceIte, Bool.false_eq_true]; done) | (simp only [alkC, h_1, h_2, hwc, ↓reduceIte, Bool.false_eq_true]; rfl) | (unfold alkC; (repeat' split) <;> first | rfl | contradiction | (simp_all; done))))) (by rfl)
theorem cm_X11_count {G : ab_G} (hG : ab_GG G) {c : CS} {M D : List ab_E} (hM : M.length = 1) {what : Int32} {nl : Nat} {ql : Nat → SY} (hL0 : cL c D (2 * 0) nl ql) {ns : Nat} {qs : Nat → SY} (hL1 : cL c D (2 * 0 + 1) ns qs)  : ab_CM G mX11_count [.ref 0, .int what] (cH c M D) (some (.int (cntC c ql nl qs ns what))) (cH c M D) := by
  refine ab_meth (l0 := [(0, .ref 0), (1, .int what)]) hG (by decide +kernel) rfl (Nat.le_of_ble_eq_true rfl) (Nat.le_refl _) (Nat.le_refl _) (fun X hX hF => ?_)
  have h10 := hL0.2.1
  have h11 := hL1.2.1
  refine ab_iload_n hX dX11_count_0 mm1 ?_
  rcases ab_sw0_6 (what) with h_1 | h_1 | h_1 | h_1 | h_1 | h_1 | h_1 | h_1
  ·
    refine ab_tsIn (tgt := 44) hX dX11_count_1 (by rw [h_1]; decide) (by rw [h_1]; decide) (off := 43) (by rw [h_1]; rfl) (by decide) ?_
    refine ab_aload_n hX dX11_count_44 mm0 ?_
    refine ab_getfield hX dX11_count_45 (fs_X11_25_12 rfl) cg_x rfl ?_
    refine ab_getfield hX dX11_count_48 (fs_X11_94_11 rfl) (cg_tr (show 0 < 3 by decide)) rfl ?_
    refine ab_callV0r hX dX11_count_51 (cg_al (by omega)) ss_X11_count_163 (cm_Jx4a65c_size_8abf5 hG (cg_al (by omega))) (Nat.le_of_ble_eq_true rfl) ?_
    exact ab_ireturn hX hF dX11_count_54 rfl (by rfl) (congrArg some (congrArg Value.int (by first | rfl | (simp only [cntC, h_1, ↓reduceIte, Bool.false_eq_true]; done) | (simp only [cntC, h_1, ↓reduceIte, Bool.false_eq_true]; rfl) | (unfold cntC; (repeat' split) <;> first | rfl | contradiction | (simp_all; done))))) (by rfl)
  ·
    refine ab_tsIn (tgt := 55) hX dX11_count_1 (by rw [h_1]; decide) (by rw [h_1]; decide) (off := 54) (by rw [h_1]; rfl) (by decide) ?_
    refine ab_aload_n hX dX11_count_55 mm0 ?_
    refine ab_getfield hX dX11_count_56 (fs_X11_25_12 rfl) cg_x rfl ?_
    refine ab_getfield hX dX11_count_59 (fs_X11_179_11 rfl) (cg_tr (show 0 < 3 by decide)) rfl ?_
    exact ab_ireturn hX hF dX11_count_62 rfl (by rfl) (congrArg some (congrArg Value.int (by first | rfl | (simp only [cntC, h_1, ↓reduceIte, Bool.false_eq_true]; done) | (simp only [cntC, h_1, ↓reduceIte, Bool.false_eq_true]; rfl) | (unfold cntC; (repeat' split) <;> first | rfl | contradiction | (simp_all; done))))) (by rfl)
  ·
    refine ab_tsIn (tgt := 63) hX dX11_count_1 (by rw [h_1]; decide) (by rw [h_1]; decide) (off := 62) (by rw [h_1]; rfl) (by decide) ?_
    refine ab_aload_n hX dX11_count_63 mm0 ?_
    refine ab_getfield hX dX11_count_64 (fs_X11_25_12 rfl) cg_x rfl ?_
    refine ab_getfield hX dX11_count_67 (fs_X11_107_11 rfl) (cg_tr (show 0 < 3 by decide)) rfl ?_
    refine ab_callV0r hX dX11_count_70 (cg_al (by omega)) ss_X11_count_163 (cm_Jx4a65c_size_8abf5 hG (cg_al (by omega))) (Nat.le_of_ble_eq_true rfl) ?_
    exact ab_ireturn hX hF dX11_count_73 rfl (by rfl) (congrArg some (congrArg Value.int (by first | rfl | (simp only [cntC, h_1, ↓reduceIte, Bool.false_eq_true]; done) | (simp only [cntC, h_1, ↓reduceIte, Bool.false_eq_true]; rfl) | (unfold cntC; (repeat' split) <;> first | rfl | contradiction | (simp_all; done))))) (by rfl)
  ·
    refine ab_tsIn (tgt := 74) hX dX11_count_1 (by rw [h_1]; decide) (by rw [h_1]; decide) (off := 73) (by rw [h_1]; rfl) (by decide) ?_
    refine ab_aload_n hX dX11_count_74 mm0 ?_
    refine ab_getfield hX dX11_count_75 (fs_X11_25_12 rfl) cg_x rfl ?_
    refine ab_getfield hX dX11_count_78 (fs_X11_114_11 rfl) (cg_tr (show 0 < 3 by decide)) rfl ?_
    exact ab_ireturn hX hF dX11_count_81 rfl (by rfl) (congrArg some (congrArg Value.int (by first | rfl | (simp only [cntC, h_1, ↓reduceIte, Bool.false_eq_true]; done) | (simp only [cntC, h_1, ↓reduceIte, Bool.false_eq_true]; rfl) | (unfold cntC; (repeat' split) <;> first | rfl | contradiction | (simp_all; done))))) (by rfl)
  ·
    refine ab_tsIn (tgt := 82) hX dX11_count_1 (by rw [h_1]; decide) (by rw [h_1]; decide) (off := 81) (by rw [h_1]; rfl) (by decide) ?_
    refine ab_aload_n hX dX11_count_82 mm0 ?_
    refine ab_getfield hX dX11_count_83 (fs_X11_25_12 rfl) cg_x rfl ?_
    refine ab_callV0r hX dX11_count_86 (cg_tr (show 0 < 3 by decide)) ss_X11_count_331 (cm_X10_wordsSaid hG hM (show 0 < 3 by decide) hL1) (Nat.le_of_ble_eq_true rfl) ?_
    exact ab_ireturn hX hF dX11_count_89 rfl (by rfl) (congrArg some (congrArg Value.int (by first | rfl | (simp only [cntC, h_1, ↓reduceIte, Bool.false_eq_true]; done) | (simp only [cntC, h_1, ↓reduceIte, Bool.false_eq_true]; rfl) | (unfold cntC; (repeat' split) <;> first | rfl | contradiction | (simp_all; done))))) (by rfl)
  ·
    refine ab_tsIn (tgt := 90) hX dX11_count_1 (by rw [h_1]; decide) (by rw [h_1]; decide) (off := 89) (by rw [h_1]; rfl) (by decide) ?_
    refine ab_aload_n hX dX11_count_90 mm0 ?_
    refine ab_getfield hX dX11_count_91 (fs_X11_25_12 rfl) cg_x rfl ?_
    refine ab_callV0r hX dX11_count_94 (cg_tr (show 0 < 3 by decide)) ss_X11_count_216 (cm_X10_mayBe hG hM (show 0 < 3 by decide) hL0) (Nat.le_of_ble_eq_true rfl) ?_
    refine ab_aload_n hX dX11_count_97 mm0 ?_
    refine ab_getfield hX dX11_count_98 (fs_X11_25_12 rfl) cg_x rfl ?_
    refine ab_getfield hX dX11_count_101 (fs_X11_114_11 rfl) (cg_tr (show 0 < 3 by decide)) rfl ?_
    refine ab_callS2r hX dX11_count_104 ss_X11_count_117 (cm_X11_hasWorld hG) (Nat.le_of_ble_eq_true rfl) ?_
    refine ab_callS1r hX dX11_count_107 ss_X11_count_121 (cm_X11_oneIf hG) (Nat.le_of_ble_eq_true rfl) ?_
    exact ab_ireturn hX hF dX11_count_110 rfl (by rfl) (congrArg some (congrArg Value.int (by first | rfl | (simp only [cntC, h_1, ↓reduceIte, Bool.false_eq_true]; done) | (simp only [cntC, h_1, ↓reduceIte, Bool.false_eq_true]; rfl) | (unfold cntC; (repeat' split) <;> first | rfl | contradiction | (simp_all; done))))) (by rfl)
  ·
    refine ab_tsIn (tgt := 111) hX dX11_count_1 (by rw [h_1]; decide) (by rw [h_1]; decide) (off := 110) (by rw [h_1]; rfl) (by decide) ?_
    refine ab_aload_n hX dX11_count_111 mm0 ?_
    refine ab_getfield hX dX11_count_112 (fs_X11_25_12 rfl) cg_x rfl ?_
    refine ab_callV0r hX dX11_count_115 (cg_tr (show 0 < 3 by decide)) ss_X11_count_198 (cm_X10_left hG hM (show 0 < 3 by decide) hL0 hL1) (Nat.le_of_ble_eq_true rfl) ?_
    refine ab_aload_n hX dX11_count_118 mm0 ?_
    refine ab_getfield hX dX11_count_119 (fs_X11_25_12 rfl) cg_x rfl ?_
    refine ab_getfield hX dX11_count_122 (fs_X11_114_11 rfl) (cg_tr (show 0 < 3 by decide)) rfl ?_
    refine ab_callS2r hX dX11_count_125 ss_X11_count_117 (cm_X11_hasWorld hG) (Nat.le_of_ble_eq_true rfl) ?_
    refine ab_callS1r hX dX11_count_128 ss_X11_count_121 (cm_X11_oneIf hG) (Nat.le_of_ble_eq_true rfl) ?_
    exact ab_ireturn hX hF dX11_count_131 rfl (by rfl) (congrArg some (congrArg Value.int (by first | rfl | (simp only [cntC, h_1, ↓reduceIte, Bool.false_eq_true]; done) | (simp only [cntC, h_1, ↓reduceIte, Bool.false_eq_true]; rfl) | (unfold cntC; (repeat' split) <;> first | rfl | contradiction | (simp_all; done))))) (by rfl)
  ·
    refine ab_tsOut (tgt := 132) hX dX11_count_1 h_1.1 (by decide) ?_
    refine ab_iconst (v := (-1)) hX dX11_count_132 (by decide) ?_
    exact ab_ireturn hX hF dX11_count_133 rfl (by rfl) (congrArg some (congrArg Value.int (by first | rfl | (simp only [cntC, h_1, ↓reduceIte, Bool.false_eq_true]; done) | (simp only [cntC, h_1, ↓reduceIte, Bool.false_eq_true]; rfl) | (unfold cntC; (repeat' split) <;> first | rfl | contradiction | (simp_all; done))))) (by rfl)
