/-! a statement told, at both -/
def T2 (e : CS) (Q : QT) (nw : Nat) (s : MS) : Prop := TR (Q (2 * 2)).1 (Q (2 * 2)).2 nw (Q (2 * 2 + 1)).1 (Q (2 * 2 + 1)).2 (e.1 (10 + 2)) (e.1 (20 + 2)) (e.2.1 2) (s.1 1) (s.1 3) (s.1 5) (s.1 0) (s.2.1 2) (s.2.1 4) (s.2.1 6) (s.2.1 7)
def MF (s r : MS) : Prop := (∀ j, j ≠ 0 → j ≠ 1 → j ≠ 3 → j ≠ 5 → j ≠ 13 → r.1 j = s.1 j) ∧ ∀ j, j ≠ 2 → j ≠ 4 → j ≠ 6 → j ≠ 7 → j ≠ 14 → r.2.1 j = s.2.1 j
theorem MF_rf (s : MS) : MF s s := ⟨fun _ _ _ _ _ _ => rfl, fun _ _ _ _ _ _ => rfl⟩
theorem MF_tr {a b c : MS} (h : MF a b) (g : MF b c) : MF a c := ⟨fun j h0 h1 h3 h5 h13 => (g.1 j h0 h1 h3 h5 h13).trans (h.1 j h0 h1 h3 h5 h13), fun j h2 h4 h6 h7 h14 => (g.2 j h2 h4 h6 h7 h14).trans (h.2 j h2 h4 h6 h7 h14)⟩
theorem MF_rd {s r : MS} (h : rdF s r) : MF s r := ⟨fun j _ _ _ _ h13 => h.1 j h13, fun j _ _ _ _ h14 => h.2 j h14⟩
theorem T2_rd {e : CS} {Q : QT} {nw : Nat} {s r : MS} (h : T2 e Q nw s) (f : rdF s r) : T2 e Q nw r := by
  unfold T2 at h ⊢
  rw [f.1 1 (by decide), f.1 3 (by decide), f.1 5 (by decide), f.1 0 (by decide), f.2 2 (by decide), f.2 4 (by decide), f.2 6 (by decide), f.2 7 (by decide)]
  exact h
theorem d10_8 : ∀ k, k < 10 → (!decide ((8 : Int32) ≤ nI k)) = iw (nI k) 0 7 := by decide +kernel
theorem d10_6 : ∀ k, k < 10 → iw (nI k) 0 5 = inB (nI k) 6 := by decide +kernel
theorem sv_eq {e : CS} {d : Nat} {r : MS} {i b : Nat} (hv : ∀ j, j < 4 → r.2.1 14 (i + j) = nuA e d (nI (b + j)) - 48) (hd : ∀ j, j < 4 → isD (nuA e d (nI (b + j))) = true) :
    svB r i = saB e d (nI b) ∧ (saB e d (nI b) = true → ∀ t, ∃ y : SY, VY y ∧ y.1 = t ∧ saE e d (nI b) t = .inr (8, syF y) ∧ rsI r i = codeY y) := by
  obtain ⟨e0, l0, z0⟩ := isD_ex (hd 0 (by decide))
  obtain ⟨e1, l1, z1⟩ := isD_ex (hd 1 (by decide))
  obtain ⟨e2, l2, z2⟩ := isD_ex (hd 2 (by decide))
  obtain ⟨e3, l3, z3⟩ := isD_ex (hd 3 (by decide))
  have n1 : nI b + 1 = nI (b + 1) := nI_add b 1
  have n2 : nI b + 2 = nI (b + 2) := nI_add b 2
  have n3 : nI b + 3 = nI (b + 3) := nI_add b 3
  have w0 : r.2.1 14 i = nI e0 := (hv 0 (by decide)).trans z0
  have w1 : r.2.1 14 (i + 1) = nI e1 := (hv 1 (by decide)).trans z1
  have w2 : r.2.1 14 (i + 2) = nI e2 := (hv 2 (by decide)).trans z2
  have w3 : r.2.1 14 (i + 3) = nI e3 := (hv 3 (by decide)).trans z3
  constructor
  · unfold svB saB
    rw [n2, n3, w0, w2, w3, z2, z3, show nuA e d (nI b) - 48 = nI e0 from z0, d10_8 _ l0, d10_6 _ l2, d10_6 _ l3]
  · intro h t
    obtain ⟨y, hy, ey, es⟩ := saE_V (t := t) h (by rw [n1]; exact hd 1 (by decide))
    refine ⟨y, hy, by rw [ey], es, ?_⟩
    unfold rsI codeY
    rw [w0, w1, w2, w3, ey]
    dsimp only
    rw [n1, n2, n3, z1, z2, z3, show nuA e d (nI b) - 48 = nI e0 from z0, tn_nI (by omega), tn_nI (by omega), tn_nI (by omega), tn_nI (by omega)]
theorem two_e {e : CS} {d : Nat} {r : MS} {a : Nat} (hv : ∀ j, j < 2 → r.2.1 14 j = nuA e d (nI (a + 1 + j)) - 48) (hd : ∀ j, j < 2 → isD (nuA e d (nI (a + 1 + j))) = true) : ∃ w, w < 100 ∧ twoI r = nI w ∧ twA e d (nI a) = nI w := by
  obtain ⟨e0, l0, z0⟩ := isD_ex (hd 0 (by decide))
  obtain ⟨e1, l1, z1⟩ := isD_ex (hd 1 (by decide))
  have w0 : r.2.1 14 0 = nI e0 := (hv 0 (by decide)).trans z0
  have w1 : r.2.1 14 1 = nI e1 := (hv 1 (by decide)).trans z1
  have E : (10 : Int32) * nI e0 + nI e1 = nI (10 * e0 + e1) := by rw [show (10 : Int32) = nI 10 from rfl, pk_mul, nI_add]
  refine ⟨10 * e0 + e1, by omega, ?_, ?_⟩
  · unfold twoI
    rw [w0, w1, E]
  · unfold twA
    rw [nI_1, nI_1, show nuA e d (nI (a + 1)) - 48 = nI e0 from z0, show nuA e d (nI (a + 1 + 1)) - 48 = nI e1 from z1, E]
theorem up_4 {Q : QT} {n : Nat} {q : Nat → SY} {k : Nat} (hk : 4 ≤ k) : ∀ l, l < 4 → upQ Q k n q l = Q l := fun l hl => upQ_ne (by omega)
theorem en_step {c : CS} {d n : Nat} (hd : d < 8) {p : CD} {Q : QT} {nw : Nat} {s : MS} (hI : enI c p Q nw) (h2 : T2 p.1 Q nw s) (hP : pI s d n) {a : Nat} (ha : s.1 13 = nI a) (han : a < n) (hg : ∀ i, i < n → txt s d i = nuA p.1 d (nI i))
    {m : Nat} (hm5 : m ≤ 5) (hm : dgC (nuA p.1 d (nI a)) = nI m) (hdg : ∀ j, 1 ≤ j → j ≤ m → isD (nuA p.1 d (nI (a + j))) = true) (hmn : a + (m + 1) < n) :
    (stS d (Q (2 * 2)).1 nw (Q (2 * 2 + 1)).1 1 s).1.1 13 = nI (a + (m + 1)) ∧ MF s (stS d (Q (2 * 2)).1 nw (Q (2 * 2 + 1)).1 1 s).1 ∧
    (((stS d (Q (2 * 2)).1 nw (Q (2 * 2 + 1)).1 1 s).2 = 0 ∧ (enX d (nI a) p).2 = false ∧ ∃ Q2 nw2, enI c (enX d (nI a) p).1 Q2 nw2 ∧ ∀ l, l < 4 → Q2 l = Q l) ∨
     ((stS d (Q (2 * 2)).1 nw (Q (2 * 2 + 1)).1 1 s).2 = 1 ∧ (enX d (nI a) p).2 = true ∧ ∃ Q2 nw2, enI c (enX d (nI a) p).1 Q2 nw2 ∧ T2 (enX d (nI a) p).1.1 Q2 nw2 (stS d (Q (2 * 2)).1 nw (Q (2 * 2 + 1)).1 1 s).1 ∧ ∀ l, l < 4 → Q2 l = Q l)) := by
  have h100 := hP.2.2.2.2.2
  have htn : tn (s.1 13) = a := by rw [ha]; exact tn_nI (by omega)
  have hx : txt s d a = nuA p.1 d (nI a) := hg a han
  have hB : ∀ x, isB s d x = true ↔ nuA p.1 d (nI a) = x := fun x => by
    rw [isB_T hP, htn, hx]
    exact ⟨fun z => z.2, fun z => ⟨by omega, z⟩⟩
  have hne : ¬ s.1 13 = s.2.1 10 d := fun z => by have := (pI_end hP).mp z; omega
  -- the digits read
  have hP1 := pI_up hP hne
  obtain ⟨r1, r2, r3, r4⟩ := dg_run (t := d) (n := n) m 0 (a + 1) hP1 (by
    show upd s.1 13 (s.1 13 + 1) 13 = _
    rw [pk_us, ha, nI_1]) (by omega) (fun j hj => by
    show isD (txt s d (a + 1 + j)) = true
    rw [hg _ (by omega), show a + 1 + j = a + (1 + j) from by omega]
    exact hdg _ (by omega) (by omega))
  have fr := dg_fr (t := d) m 0 (mu1 s 13 (s.1 13 + 1))
  have F : rdF s (dgS d m 0 (mu1 s 13 (s.1 13 + 1))).1 := rd_tr (rd_up s _) ⟨fr.1, fr.2.1⟩
  have X : ∀ f, stX f m d 1 (mu1 s 13 (s.1 13 + 1)) = f (dgS d m 0 (mu1 s 13 (s.1 13 + 1))).1 := fun f => by
    unfold stX
    rw [if_pos r1, if_neg (by decide)]
  have V : ∀ j, j < m → (dgS d m 0 (mu1 s 13 (s.1 13 + 1))).1.2.1 14 j = nuA p.1 d (nI (a + 1 + j)) - 48 := fun j hj => by
    have := r3 j hj
    rw [Nat.zero_add] at this
    rw [this]
    show txt s d (a + 1 + j) - 48 = _
    rw [hg _ (by omega)]
  have DG : ∀ j, j < m → isD (nuA p.1 d (nI (a + 1 + j))) = true := fun j hj => by
    rw [show a + 1 + j = a + (1 + j) from by omega]
    exact hdg _ (by omega) (by omega)
  have h2' := T2_rd h2 F
  generalize (dgS d m 0 (mu1 s 13 (s.1 13 + 1))).1 = r at r2 F X V h2'
  rw [show a + 1 + m = a + (m + 1) from by omega] at r2
  have hX : enX d (nI a) p = enP (Q (2 * 2)).1 (Q (2 * 2 + 1)).1 d (nI a) p := (enX_e hI.1).symm
  rw [hX]
  obtain ⟨e1, e2, e3, e4, e5, e6, e7, e8, e9, e10, e11, e12⟩ := h2'
  have h22 : T2 p.1 Q nw r := ⟨e1, e2, e3, e4, e5, e6, e7, e8, e9, e10, e11, e12⟩
  have hw := hI.2.2.1
  rcases dgB (nuA p.1 d (nI a)) with ⟨-, z⟩ | ⟨-, z, x⟩ | ⟨-, z, x⟩ | ⟨-, z, x⟩ | ⟨-, z, x⟩
  · rw [hm] at z; exact absurd (nI_pos' (by omega)) z
  · -- a law
    rw [hm] at z
    have m4 : m = 4 := (nI_eq (by omega) (by omega)).mp z
    subst m4
    have S : stS d (Q (2 * 2)).1 nw (Q (2 * 2 + 1)).1 1 s = laS (Q (2 * 2)).1 r := by
      unfold stS
      rw [if_pos ((hB 108).mpr x)]; exact X _
    have E : enP (Q (2 * 2)).1 (Q (2 * 2 + 1)).1 d (nI a) p = enL1 (Q (2 * 2)).1 d (nI a) p := if_pos x
    rw [S, E]
    obtain ⟨sv, sy⟩ := sv_eq (e := p.1) (d := d) (r := r) (i := 0) (b := a + 1) (fun j hj => by rw [Nat.zero_add]; exact V j hj) (fun j hj => DG j hj)
    unfold laS enL1
    rw [sv, nI_1]
    by_cases q : saB p.1 d (nI (a + 1)) = true
    · rw [if_pos q, if_pos q, e4, nI_sixA e1 (by decide) (show (6 : Int32) = nI 6 from rfl)]
      obtain ⟨y, hy, y1, ye, yc⟩ := sy q (-4)
      rw [ye]
      by_cases q6 : (Q (2 * 2)).1 < 6
      · rw [if_pos q6, if_pos q6, nI_1, yc]
        have u1 : ∀ k, (mu2 (mu1 r 1 (nI ((Q (2 * 2)).1 + 1))) 2 (Q (2 * 2)).1 (codeY y)).1 k = if k = 1 then nI ((Q (2 * 2)).1 + 1) else r.1 k := fun k => rfl
        have u2 : ∀ k, k ≠ 2 → (mu2 (mu1 r 1 (nI ((Q (2 * 2)).1 + 1))) 2 (Q (2 * 2)).1 (codeY y)).2.1 k = r.2.1 k := fun k hk => if_neg hk
        have u22 : ∀ i, (mu2 (mu1 r 1 (nI ((Q (2 * 2)).1 + 1))) 2 (Q (2 * 2)).1 (codeY y)).2.1 2 i = if i = (Q (2 * 2)).1 then codeY y else r.2.1 2 i := fun i => mu2_v i
        refine ⟨?_, ⟨fun j h0 h1 h3 h5 h13 => ?_, fun j h2 h4 h6 h7 h14 => (u2 j h2).trans (F.2 j h14)⟩, Or.inr ⟨rfl, rfl, _, nw, enI_ad hI (by decide) (by decide) (by omega) rfl hy, ?_, up_4 (by decide)⟩⟩
        · rw [u1, if_neg (by decide)]; exact r2
        · rw [u1, if_neg h1]; exact F.1 j h13
        · have fs := fs_ad (l := 2 * 2) (r := 54 + p.2.length) (p := (p.1, p.2 ++ [.inr (8, syF y)])) (by decide)
          unfold T2
          rw [upQ_ne (show 2 * 2 + 1 ≠ 2 * 2 by decide), upQ_eq]
          dsimp only
          rw [fs.1 (10 + 2) (by decide), fs.1 (20 + 2) (by decide), fs.2.1 2, u1, u1, u1, u1, if_pos rfl, if_neg (by decide), if_neg (by decide), if_neg (by decide), u2 4 (by decide), u2 6 (by decide), u2 7 (by decide)]
          refine ⟨by omega, e2, e3, rfl, e5, e6, e7, e8, e9, fun i hi => ?_, e11, e12⟩
          rw [u22]
          dsimp only
          by_cases z : i = (Q (2 * 2)).1
          · rw [if_pos z, if_pos z]; exact ⟨hy, rfl⟩
          · rw [if_neg z, if_neg z]; exact e10 i (by omega)
      · rw [if_neg q6, if_neg q6]
        exact ⟨r2, MF_rd F, Or.inl ⟨rfl, rfl, Q, nw, enI_app hI, fun _ _ => rfl⟩⟩
    · rw [if_neg q, if_neg q]
      exact ⟨r2, MF_rd F, Or.inl ⟨rfl, rfl, Q, nw, hI, fun _ _ => rfl⟩⟩
  · -- a witness
    rw [hm] at z
    have m2 : m = 2 := (nI_eq (by omega) (by omega)).mp z
    subst m2
    have S : stS d (Q (2 * 2)).1 nw (Q (2 * 2 + 1)).1 1 s = waS nw r := by
      unfold stS
      rw [if_neg (fun z => by rw [(hB 108).mp z] at x; exact absurd x (by decide)), if_pos ((hB 119).mpr x)]; exact X _
    have E : enP (Q (2 * 2)).1 (Q (2 * 2 + 1)).1 d (nI a) p = ((awP p.1 2 (twA p.1 d (nI a)), p.2), awB p.1 2 (twA p.1 d (nI a))) := by
      unfold enP
      rw [x, if_neg (by decide), if_neg (by decide), if_neg (by decide), if_pos rfl]
    rw [S, E]
    obtain ⟨w, hw100, w1, w2⟩ := two_e (e := p.1) (d := d) (r := r) (a := a) (fun j hj => V j hj) (fun j hj => DG j hj)
    unfold waS awP awB
    rw [w1, w2, show afB (nI w) = iw (nI w) 0 63 from rfl, hw, e6]
    by_cases q : w < 64
    · have i1 : iw (nI w) 0 63 = true := by
        unfold iw
        rw [decide_eq_false (nI_pos (by omega)), decide_eq_false (show ¬ (63 : Int32) < nI w from nI_nlt (a := 63) (b := w) (by omega) (by omega))]; rfl
      rw [i1, if_neg (show ¬ (63 : Int32) < nI w from nI_nlt (a := 63) (b := w) (by omega) (by omega)), nI_sixA e3 (by decide) (show (5 : Int32) = nI 5 from rfl)]
      by_cases q5 : nw < 5
      · have i2 : (true && !decide (nI nw = 5)) = true := by
          rw [decide_eq_false (show ¬ nI nw = 5 from fun e => by have := (nI_eq (a := nw) (b := 5) (by omega) (by omega)).mp e; omega)]; rfl
        rw [if_pos q5, i2, if_pos rfl, tn_nI (by omega), nI_1]
        have u1 : ∀ k, (mu2 (mu1 r 3 (nI (nw + 1))) 4 nw (nI w)).1 k = if k = 3 then nI (nw + 1) else r.1 k := fun k => rfl
        have u2 : ∀ k, k ≠ 4 → (mu2 (mu1 r 3 (nI (nw + 1))) 4 nw (nI w)).2.1 k = r.2.1 k := fun k hk => if_neg hk
        have u24 : ∀ i, (mu2 (mu1 r 3 (nI (nw + 1))) 4 nw (nI w)).2.1 4 i = if i = nw then nI w else r.2.1 4 i := fun i => mu2_v i
        have v1 : ∀ k, (cu1 (cu2 p.1 2 nw (nI w)) (10 + 2) (nI (nw + 1))).1 k = if k = 10 + 2 then nI (nw + 1) else p.1.1 k := fun k => rfl
        have v2 : ∀ k, k ≠ 2 → (cu1 (cu2 p.1 2 nw (nI w)) (10 + 2) (nI (nw + 1))).2.1 k = p.1.2.1 k := fun k hk => if_neg hk
        have v22 : ∀ i, (cu1 (cu2 p.1 2 nw (nI w)) (10 + 2) (nI (nw + 1))).2.1 2 i = if i = nw then nI w else p.1.2.1 2 i := fun i => rfl
        refine ⟨?_, ⟨fun j h0 h1 h3 h5 h13 => ?_, fun j h2 h4 h6 h7 h14 => (u2 j h4).trans (F.2 j h14)⟩, Or.inr ⟨rfl, rfl, Q, nw + 1, ⟨GI_c hI.1 (fun l hl => by rw [v1, if_neg (by omega)]) (fun _ _ => rfl), fr_tr hI.2.1 ⟨fun k h1 h2 h3 => by rw [v1, if_neg h1], fun k hk => v2 k hk, fun _ _ => rfl⟩, by rw [v1, if_pos rfl], by omega⟩, ?_, fun _ _ => rfl⟩⟩
        · rw [u1, if_neg (by decide)]; exact r2
        · rw [u1, if_neg h3]; exact F.1 j h13
        · unfold T2
          dsimp only
          rw [v1, v1, if_pos rfl, if_neg (by decide), u1, u1, u1, u1, if_neg (by decide), if_pos rfl, if_neg (by decide), if_neg (by decide), u2 2 (by decide), u2 6 (by decide), u2 7 (by decide)]
          refine ⟨e1, e2, by omega, e4, e5, rfl, rfl, e8, e9, e10, fun i hi => ?_, fun j hj => ?_⟩
          · obtain ⟨x1, x2, x3, w, hw, x4⟩ := e11 i hi
            exact ⟨x1, x2, x3, w, by omega, x4⟩
          · rw [u24, v22]
            by_cases z : j = nw
            · rw [if_pos z, if_pos z]; exact ⟨rfl, w, q, rfl⟩
            · rw [if_neg z, if_neg z]; exact e12 j (by omega)
      · have i2 : (true && !decide (nI nw = 5)) = false := by
          rw [show nw = 5 from by omega]; rfl
        rw [if_neg q5, i2, if_neg (by decide)]
        exact ⟨r2, MF_rd F, Or.inl ⟨rfl, rfl, Q, nw, hI, fun _ _ => rfl⟩⟩
    · have g63 : (63 : Int32) < nI w := nI_lt (a := 63) (b := w) (by omega) (by omega)
      have i1 : iw (nI w) 0 63 = false := by
        unfold iw
        rw [decide_eq_true g63, Bool.not_true, Bool.and_false]
      rw [i1, if_pos g63, Bool.false_and, if_neg (by decide)]
      exact ⟨r2, MF_rd F, Or.inl ⟨rfl, rfl, Q, nw, hI, fun _ _ => rfl⟩⟩
  · -- the truth
    rw [hm] at z
    have m2 : m = 2 := (nI_eq (by omega) (by omega)).mp z
    subst m2
    have S : stS d (Q (2 * 2)).1 nw (Q (2 * 2 + 1)).1 1 s = taS r := by
      unfold stS
      rw [if_neg (fun z => by rw [(hB 108).mp z] at x; exact absurd x (by decide)), if_neg (fun z => by rw [(hB 119).mp z] at x; exact absurd x (by decide)), if_pos ((hB 116).mpr x)]; exact X _
    have E : enP (Q (2 * 2)).1 (Q (2 * 2 + 1)).1 d (nI a) p = ((stP2 p.1 2 (twA p.1 d (nI a)), p.2), inB (twA p.1 d (nI a)) 64) := by
      unfold enP
      rw [x, if_neg (by decide), if_neg (by decide), if_pos rfl]
    rw [S, E]
    obtain ⟨w, hw100, w1, w2⟩ := two_e (e := p.1) (d := d) (r := r) (a := a) (fun j hj => V j hj) (fun j hj => DG j hj)
    unfold taS stP2
    rw [w1, w2, inB64]
    by_cases q : w < 64
    · have i1 : iw (nI w) 0 63 = true := by
        unfold iw
        rw [decide_eq_false (nI_pos (by omega)), decide_eq_false (show ¬ (63 : Int32) < nI w from nI_nlt (a := 63) (b := w) (by omega) (by omega))]; rfl
      rw [i1, if_pos rfl, if_pos (show nI w ≤ 63 from nI_le (a := w) (b := 63) (by omega) (by omega))]
      have u1 : ∀ k, (mu1 r 0 (nI w)).1 k = if k = 0 then nI w else r.1 k := fun k => rfl
      have v1 : ∀ k, (cu1 p.1 (20 + 2) (nI w)).1 k = if k = 20 + 2 then nI w else p.1.1 k := fun k => rfl
      refine ⟨?_, ⟨fun j h0 h1 h3 h5 h13 => ?_, fun j h2 h4 h6 h7 h14 => F.2 j h14⟩, Or.inr ⟨rfl, rfl, Q, nw, ⟨GI_c hI.1 (fun l hl => by rw [v1, if_neg (by omega)]) (fun _ _ => rfl), fr_tr hI.2.1 ⟨fun k h1 h2 h3 => by rw [v1, if_neg h2], fun k hk => rfl, fun _ _ => rfl⟩, ?_, hI.2.2.2⟩, ?_, fun _ _ => rfl⟩⟩
      · rw [u1, if_neg (by decide)]; exact r2
      · rw [u1, if_neg h0]; exact F.1 j h13
      · rw [v1, if_neg (by decide)]; exact hw
      · unfold T2
        dsimp only
        rw [v1, v1, if_neg (by decide), if_pos rfl, u1, u1, u1, u1, if_neg (by decide), if_neg (by decide), if_neg (by decide), if_pos rfl]
        exact ⟨e1, e2, e3, e4, e5, e6, e7, rfl, ⟨w, q, rfl⟩, e10, e11, e12⟩
    · have g63 : (63 : Int32) < nI w := nI_lt (a := 63) (b := w) (by omega) (by omega)
      have i1 : iw (nI w) 0 63 = false := by
        unfold iw
        rw [decide_eq_true g63, Bool.not_true, Bool.and_false]
      rw [i1, if_neg (show ¬ nI w ≤ 63 from (fa_of_lt g63).2.1), if_neg (show ¬ false = true from by decide)]
      exact ⟨r2, MF_rd F, Or.inl ⟨rfl, rfl, Q, nw, hI, fun _ _ => rfl⟩⟩
  · -- something said
    rw [hm] at z
    have m5 : m = 5 := (nI_eq (by omega) (by omega)).mp z
    subst m5
    have S : stS d (Q (2 * 2)).1 nw (Q (2 * 2 + 1)).1 1 s = saS (Q (2 * 2 + 1)).1 r := by
      unfold stS
      rw [if_neg (fun z => by rw [(hB 108).mp z] at x; exact absurd x (by decide)), if_neg (fun z => by rw [(hB 119).mp z] at x; exact absurd x (by decide)), if_neg (fun z => by rw [(hB 116).mp z] at x; exact absurd x (by decide)), if_pos ((hB 115).mpr x)]; exact X _
    have E : enP (Q (2 * 2)).1 (Q (2 * 2 + 1)).1 d (nI a) p = enS1 (Q (2 * 2 + 1)).1 d (nI a) p := by
      unfold enP
      rw [x, if_neg (by decide), if_pos rfl]
    rw [S, E]
    obtain ⟨sv, sy⟩ := sv_eq (e := p.1) (d := d) (r := r) (i := 1) (b := a + 2) (fun j hj => by rw [V (1 + j) (by omega)]; congr 3; omega) (fun j hj => by have := DG (1 + j) (by omega); rw [show a + 1 + (1 + j) = a + 2 + j from by omega] at this; exact this)
    have tl : tlA p.1 d (nI a) = r.2.1 14 0 := by
      unfold tlA
      rw [nI_1, V 0 (by decide)]
    unfold saS enS1
    rw [sv, show nI a + 2 = nI (a + 2) from nI_add a 2, tl, hw_iw hw e3, e6]
    by_cases q : saB p.1 d (nI (a + 2)) = true
    · rw [if_pos q, if_pos q]
      by_cases q0 : iw (r.2.1 14 0) 0 (nI nw - 1) = true
      · rw [if_pos q0, if_pos q0, e5, nI_sixA e2 (by decide) (show (10 : Int32) = nI 10 from rfl)]
        obtain ⟨v, hv, ev⟩ := iwn (by omega) q0
        obtain ⟨y, hy, y1, ye, yc⟩ := sy q (r.2.1 14 0)
        rw [ye]
        by_cases q6 : (Q (2 * 2 + 1)).1 < 10
        · rw [if_pos q6, if_pos q6, nI_1, show rsI r 1 = codeY y from yc]
          have u1 : ∀ k, (mu2 (mu1 (mu2 r 7 (Q (2 * 2 + 1)).1 (r.2.1 14 0)) 5 (nI ((Q (2 * 2 + 1)).1 + 1))) 6 (Q (2 * 2 + 1)).1 (codeY y)).1 k = if k = 5 then nI ((Q (2 * 2 + 1)).1 + 1) else r.1 k := fun k => rfl
          have u2 : ∀ k, k ≠ 6 → k ≠ 7 → (mu2 (mu1 (mu2 r 7 (Q (2 * 2 + 1)).1 (r.2.1 14 0)) 5 (nI ((Q (2 * 2 + 1)).1 + 1))) 6 (Q (2 * 2 + 1)).1 (codeY y)).2.1 k = r.2.1 k := fun k h6 h7 => (if_neg h6).trans (if_neg h7)
          have u26 : ∀ i, (mu2 (mu1 (mu2 r 7 (Q (2 * 2 + 1)).1 (r.2.1 14 0)) 5 (nI ((Q (2 * 2 + 1)).1 + 1))) 6 (Q (2 * 2 + 1)).1 (codeY y)).2.1 6 i = if i = (Q (2 * 2 + 1)).1 then codeY y else r.2.1 6 i := fun i => mu2_v i
          have u27 : ∀ i, (mu2 (mu1 (mu2 r 7 (Q (2 * 2 + 1)).1 (r.2.1 14 0)) 5 (nI ((Q (2 * 2 + 1)).1 + 1))) 6 (Q (2 * 2 + 1)).1 (codeY y)).2.1 7 i = if i = (Q (2 * 2 + 1)).1 then r.2.1 14 0 else r.2.1 7 i := fun i => (congrFun (mu2_n (s := mu1 (mu2 r 7 (Q (2 * 2 + 1)).1 (r.2.1 14 0)) 5 (nI ((Q (2 * 2 + 1)).1 + 1))) (k := 6) (by decide)) i).trans (mu2_v (s := r) i)
          refine ⟨?_, ⟨fun j h0 h1 h3 h5 h13 => ?_, fun j h2 h4 h6 h7 h14 => (u2 j h6 h7).trans (F.2 j h14)⟩, Or.inr ⟨rfl, rfl, _, nw, enI_ad hI (by decide) (by decide) (by omega) rfl hy, ?_, up_4 (by decide)⟩⟩
          · rw [u1, if_neg (by decide)]; exact r2
          · rw [u1, if_neg h5]; exact F.1 j h13
          · have fs := fs_ad (l := 2 * 2 + 1) (r := 54 + p.2.length) (p := (p.1, p.2 ++ [.inr (8, syF y)])) (by decide)
            unfold T2
            rw [upQ_ne (show 2 * 2 ≠ 2 * 2 + 1 by decide), upQ_eq]
            dsimp only
            rw [fs.1 (10 + 2) (by decide), fs.1 (20 + 2) (by decide), fs.2.1 2, u1, u1, u1, u1, if_neg (by decide), if_neg (by decide), if_pos rfl, if_neg (by decide), u2 2 (by decide) (by decide), u2 4 (by decide) (by decide)]
            refine ⟨e1, by omega, e3, e4, rfl, e6, e7, e8, e9, e10, fun i hi => ?_, e12⟩
            rw [u26, u27]
            dsimp only
            by_cases z : i = (Q (2 * 2 + 1)).1
            · rw [if_pos z, if_pos z, if_pos z]; exact ⟨hy, rfl, y1.symm, v, hv, y1.trans ev⟩
            · rw [if_neg z, if_neg z, if_neg z]; exact e11 i (by omega)
        · rw [if_neg q6, if_neg q6]
          exact ⟨r2, MF_rd F, Or.inl ⟨rfl, rfl, Q, nw, enI_app hI, fun _ _ => rfl⟩⟩
      · rw [if_neg q0, if_neg q0]
        exact ⟨r2, MF_rd F, Or.inl ⟨rfl, rfl, Q, nw, enI_app hI, fun _ _ => rfl⟩⟩
    · rw [if_neg q, if_neg q]
      refine ⟨?_, ?_, Or.inl ⟨?_, rfl, Q, nw, hI, fun _ _ => rfl⟩⟩
      · split <;> exact r2
      · split <;> exact MF_rd F
      · split <;> rfl
