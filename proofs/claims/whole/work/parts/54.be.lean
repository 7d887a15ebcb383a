/-! lists grow and shrink; images -/
theorem nI_sixA {α : Type} {n N : Nat} (h : n ≤ N) (hN : N < 2147483648) {x : Int32} (e : x = nI N) {y z : α} : (if nI n = x then y else z) = if n < N then z else y := by
  subst e
  by_cases q : n < N
  · rw [if_pos q, if_neg (fun z => by have := (nI_eq (by omega) (by omega)).mp z; omega)]
  · rw [if_neg q, if_pos (by rw [show n = N from by omega])]
theorem GI_set {c : CS} {D : List ab_E} {Q : QT} {f g : Nat → Int64} (hD : D[0]? = some (eCell f)) (h : GI c D Q) : GI c (D.set 0 (eCell g)) Q := by
  have S : ∀ (r : Nat) (x : ab_E), x ≠ eCell f → D[r]? = some x → (D.set 0 (eCell g))[r]? = some x := fun r x hx hr => by
    have : (0 : Nat) ≠ r := by
      rintro rfl
      rw [hD] at hr
      exact hx (Option.some.inj hr).symm
    rw [List.getElem?_set_ne this]
    exact hr
  refine ⟨fun j hj => ?_, h.2⟩
  obtain ⟨h1, h2, h3, h4⟩ := h.1 j hj
  refine ⟨h1, h2, LI_kp h3 (fun r fs hr => S r _ (by intro z; cases z) hr) (fun e f g1 g2 => S e _ (by intro z; cases z) g2), h4⟩
theorem RS_D {c : CS} {D E : List ab_E} {Q : QT} {nw : Nat} {s : MS} (h : RS c D Q nw s) (g : GI c E Q) : RS c E Q nw s := ⟨g, h.2⟩
section
variable {c : CS} {D : List ab_E} {Q : QT} {nw : Nat} {s : MS}
theorem rs_toss (h : RS c D Q nw s) {a : Int32} : ∃ Q2 nw2, RS c (tosD c D a) Q2 nw2 s := by
  refine ⟨Q, nw, RS_D h ?_⟩
  unfold tosD
  repeat' split
  all_goals first | exact h.1 | exact GI_app _ h.1
theorem rs_element (h : RS c D Q nw s) {f : Nat → Int64} (hD : D[0]? = some (eCell f)) {a b x : Int32} : RS c (elD c D f a b) Q nw (mu1 s 21 x) := by
  refine RS_s (RS_D h ?_) rfl rfl rfl rfl rfl (fun _ _ => rfl) (fun _ _ => rfl) (fun _ _ => rfl) (fun _ _ => rfl) rfl rfl rfl rfl rfl
  unfold elD
  split
  · exact GI_set hD h.1
  · split
    · exact GI_app _ h.1
    · exact GI_app _ h.1
theorem rs_unsays (h : RS c D Q nw s) : ∃ Q2 nw2, RS (unsP c D (Q (2 * 0 + 1)).1).1 (unsP c D (Q (2 * 0 + 1)).1).2 Q2 nw2 (unsaysS s) := by
  have h10 := rs_ns h
  unfold unsP unsaysS
  rw [rs_m5 h]
  by_cases q : (Q (2 * 0 + 1)).1 = 0
  · rw [if_pos q, q, if_pos (by decide)]
    exact ⟨Q, nw, h⟩
  · rw [if_neg q, if_neg (nI_ne0 (by omega) (by omega))]
    obtain ⟨m, e⟩ : ∃ m, (Q (2 * 0 + 1)).1 = m + 1 := ⟨(Q (2 * 0 + 1)).1 - 1, by omega⟩
    rw [e, nI_pred]
    have f := fr_fs (fs_rm (l := 2 * 0 + 1) (p := (c, D)) (by decide))
    have u1 : ∀ k, (mu1 s 5 (nI m)).1 k = if k = 5 then nI m else s.1 k := fun k => rfl
    refine ⟨upQ Q (2 * 0 + 1) m (Q (2 * 0 + 1)).2, nw, GI_rm h.1 (by decide) e, ?_, ?_, fun d hd => SR_fr hd f (SR_o (rs_sr h hd) rfl rfl rfl rfl rfl rfl rfl rfl rfl (fun _ _ => rfl)), KR_fr f h.2.2.2.2⟩
    · refine TR0_fr f ?_
      obtain ⟨e1, e2, e3, e4, e5, e6, e7, e8, e9, e10, e11, e12⟩ := h.2.1
      unfold TR0
      rw [upQ_ne (show 2 * 0 ≠ 2 * 0 + 1 by decide), upQ_eq]
      refine ⟨e1, by dsimp only; omega, e3, ?_, ?_, ?_, e7, ?_, ?_, e10, fun i hi => e11 i (by dsimp only at hi; omega), e12⟩
      · rw [u1, if_neg (by decide)]; exact e4
      · rw [u1, if_pos rfl]
      · rw [u1, if_neg (by decide)]; exact e6
      · rw [u1, if_neg (by decide)]; exact e8
      · rw [u1, if_neg (by decide)]; exact e9
    · exact IR_fr f (IR_q (upQ_ne (by decide)) (upQ_ne (by decide)) (by rw [u1, if_neg (by decide)]) rfl h.2.2.1)
theorem ns_syF {t : Int32} {k f x y : Nat} : nsC t k (nI f) (nI x) (nI y) = .inr (8, syF (t, k, f, x, y)) := rfl
theorem rs_rules (h : RS c D Q nw s) {a b d : Int32} : ∃ Q2 nw2, RS (rulP c D (Q (2 * 0)).1 a b d).1 (rulP c D (Q (2 * 0)).1 a b d).2 Q2 nw2 (rulesS s (Q (2 * 0)).1 a b d) := by
  have h6 := rs_nl h
  unfold rulP rulesS
  rw [inB6, inB6, rs_m1 h, nI_sixA h6 (by decide) (show (6 : Int32) = nI 6 from rfl)]
  by_cases q1 : iw a 0 7 = true
  · rw [if_pos q1, if_pos q1]
    by_cases q2 : iw b 0 5 = true
    · rw [if_pos q2, if_pos q2]
      by_cases q3 : iw d 0 5 = true
      · rw [if_pos q3, if_pos q3]
        obtain ⟨j, hj, rfl⟩ := iw8 q1
        obtain ⟨x, hx, rfl⟩ := iw6 q2
        obtain ⟨y, hy, rfl⟩ := iw6 q3
        rw [tn_nI (by omega)]
        rcases sr_S (rs_sr h hj) with ⟨h1, h2, h3⟩ | ⟨h1, h2, h3, h4⟩
        · rw [if_pos h2, h3, if_pos (show (0 : Int32) ≤ 0 from by decide)]
          obtain ⟨-, k, f, hk, hf, g1, g2, g3, g4⟩ := sr_1 (rs_sr h hj) h1
          have E : nsD c (-4) (nI j) (nI x) (nI y) = .inr (8, syF (-4, k, f, x, y)) := by
            unfold nsD
            rw [tn_nI (by omega), g1, g2]; rfl
          have E2 : onS s j (nI x) (nI y) = codeY (-4, k, f, x, y) := by
            unfold onS
            rw [g3, g4]; rfl
          rw [E, E2]
          by_cases q : (Q (2 * 0)).1 < 6
          · rw [if_pos q, if_pos q, nI_1]
            have V : VY ((-4 : Int32), k, f, x, y) := ⟨hk, hf, hx, hy⟩
            generalize ((-4 : Int32), k, f, x, y) = Y at V ⊢
            have fr := fr_fs (fs_ad (l := 2 * 0) (r := 54 + D.length) (p := (c, D ++ [.inr (8, syF Y)])) (by decide))
            have u1 : ∀ k, (mu1 (mu2 s 2 (Q (2 * 0)).1 (codeY Y)) 1 (nI ((Q (2 * 0)).1 + 1))).1 k = if k = 1 then nI ((Q (2 * 0)).1 + 1) else s.1 k := fun k => rfl
            have u2 : ∀ k, k ≠ 2 → (mu1 (mu2 s 2 (Q (2 * 0)).1 (codeY Y)) 1 (nI ((Q (2 * 0)).1 + 1))).2.1 k = s.2.1 k := fun k hk => if_neg hk
            have u22 : ∀ i, (mu1 (mu2 s 2 (Q (2 * 0)).1 (codeY Y)) 1 (nI ((Q (2 * 0)).1 + 1))).2.1 2 i = if i = (Q (2 * 0)).1 then codeY Y else s.2.1 2 i := fun i => mu2_v i
            refine ⟨_, nw, GI_ad (GI_app _ h.1) (by decide) (by omega) ga_n V, ?_, ?_, fun d hd => SR_fr hd fr (SR_o (rs_sr h hd) rfl rfl rfl rfl rfl rfl (by rw [u2 8 (by decide)]) (by rw [u2 9 (by decide)]) (by rw [u2 10 (by decide)]) (fun i hi => by rw [u2 11 (by decide)])), KR_fr fr h.2.2.2.2⟩
            · refine TR0_fr fr ?_
              obtain ⟨e1, e2, e3, e4, e5, e6, e7, e8, e9, e10, e11, e12⟩ := h.2.1
              unfold TR0
              rw [upQ_ne (show 2 * 0 + 1 ≠ 2 * 0 by decide), upQ_eq]
              refine ⟨by dsimp only; omega, e2, e3, ?_, ?_, ?_, e7, ?_, ?_, fun i hi => ?_, fun i hi => ?_, fun i hi => ?_⟩
              · rw [u1, if_pos rfl]
              · rw [u1, if_neg (by decide)]; exact e5
              · rw [u1, if_neg (by decide)]; exact e6
              · rw [u1, if_neg (by decide)]; exact e8
              · rw [u1, if_neg (by decide)]; exact e9
              · rw [u22]
                dsimp only at hi ⊢
                by_cases z : i = (Q (2 * 0)).1
                · rw [if_pos z, if_pos z]; exact ⟨V, rfl⟩
                · rw [if_neg z, if_neg z]; exact e10 i (by omega)
              · rw [u2 6 (by decide), u2 7 (by decide)]; exact e11 i hi
              · rw [u2 4 (by decide)]; exact e12 i hi
            · exact IR_fr fr (IR_q (upQ_ne (by decide)) (upQ_ne (by decide)) (by rw [u1, if_neg (by decide)]) (u2 16 (by decide)) h.2.2.1)
          · rw [if_neg q, if_neg q]
            exact ⟨Q, nw, RS_D h (GI_app _ h.1)⟩
        · rw [if_neg h2, if_neg h3]; exact ⟨Q, nw, h⟩
      · rw [if_neg q3, if_neg q3]; exact ⟨Q, nw, h⟩
    · rw [if_neg q2, if_neg q2]; exact ⟨Q, nw, h⟩
  · rw [if_neg q1, if_neg q1]; exact ⟨Q, nw, h⟩
theorem rs_says (h : RS c D Q nw s) {a b d e : Int32} : ∃ Q2 nw2, RS (sayP c D (Q (2 * 0 + 1)).1 a b d e).1 (sayP c D (Q (2 * 0 + 1)).1 a b d e).2 Q2 nw2 (saysS s (Q (2 * 0 + 1)).1 a b d e) := by
  have h10 := rs_ns h
  have h5 := rs_w5 h
  unfold sayP saysS
  rw [inB6, inB6, rs_m5 h, nI_sixA h10 (by decide) (show (10 : Int32) = nI 10 from rfl), hw_iw (rs_w h) h5, rs_m3 h, if_sw]
  by_cases q0 : iw a 0 (nI nw - 1) = true
  · rw [if_pos q0, if_pos q0]
    obtain ⟨w, hw, rfl⟩ := iwn (by omega) q0
    by_cases q1 : iw b 0 7 = true
    · rw [if_pos q1, if_pos q1]
      by_cases q2 : iw d 0 5 = true
      · rw [if_pos q2, if_pos q2]
        by_cases q3 : iw e 0 5 = true
        · rw [if_pos q3, if_pos q3]
          obtain ⟨j, hj, rfl⟩ := iw8 q1
          obtain ⟨x, hx, rfl⟩ := iw6 q2
          obtain ⟨y, hy, rfl⟩ := iw6 q3
          rw [tn_nI (by omega)]
          rcases sr_S (rs_sr h hj) with ⟨h1, h2, h3⟩ | ⟨h1, h2, h3, h4⟩
          · rw [if_pos h2, h3, if_pos (show (0 : Int32) ≤ 0 from by decide)]
            obtain ⟨-, k, f, hk, hf, g1, g2, g3, g4⟩ := sr_1 (rs_sr h hj) h1
            have E : nsD c (nI w) (nI j) (nI x) (nI y) = .inr (8, syF (nI w, k, f, x, y)) := by
              unfold nsD
              rw [tn_nI (by omega), g1, g2]; rfl
            have E2 : onS s j (nI x) (nI y) = codeY (nI w, k, f, x, y) := by
              unfold onS
              rw [g3, g4]; rfl
            rw [E, E2]
            by_cases q : (Q (2 * 0 + 1)).1 < 10
            · rw [if_pos q, if_pos q, nI_1]
              have V : VY (nI w, k, f, x, y) := ⟨hk, hf, hx, hy⟩
              have W : (nI w, k, f, x, y).1 = nI w := rfl
              generalize (nI w, k, f, x, y) = Y at V W ⊢
              have fr := fr_fs (fs_ad (l := 2 * 0 + 1) (r := 54 + D.length) (p := (c, D ++ [.inr (8, syF Y)])) (by decide))
              have u1 : ∀ k, (mu1 (mu2 (mu2 s 7 (Q (2 * 0 + 1)).1 (nI w)) 6 (Q (2 * 0 + 1)).1 (codeY Y)) 5 (nI ((Q (2 * 0 + 1)).1 + 1))).1 k = if k = 5 then nI ((Q (2 * 0 + 1)).1 + 1) else s.1 k := fun k => rfl
              have u2 : ∀ k, k ≠ 6 → k ≠ 7 → (mu1 (mu2 (mu2 s 7 (Q (2 * 0 + 1)).1 (nI w)) 6 (Q (2 * 0 + 1)).1 (codeY Y)) 5 (nI ((Q (2 * 0 + 1)).1 + 1))).2.1 k = s.2.1 k := fun k h6 h7 => (if_neg h6).trans (if_neg h7)
              have u26 : ∀ i, (mu1 (mu2 (mu2 s 7 (Q (2 * 0 + 1)).1 (nI w)) 6 (Q (2 * 0 + 1)).1 (codeY Y)) 5 (nI ((Q (2 * 0 + 1)).1 + 1))).2.1 6 i = if i = (Q (2 * 0 + 1)).1 then codeY Y else s.2.1 6 i := fun i => (mu2_v (s := mu2 s 7 (Q (2 * 0 + 1)).1 (nI w)) i)
              have u27 : ∀ i, (mu1 (mu2 (mu2 s 7 (Q (2 * 0 + 1)).1 (nI w)) 6 (Q (2 * 0 + 1)).1 (codeY Y)) 5 (nI ((Q (2 * 0 + 1)).1 + 1))).2.1 7 i = if i = (Q (2 * 0 + 1)).1 then nI w else s.2.1 7 i := fun i => (congrFun (mu2_n (s := mu2 s 7 (Q (2 * 0 + 1)).1 (nI w)) (k := 6) (by decide)) i).trans (mu2_v i)
              refine ⟨_, nw, GI_ad (GI_app _ h.1) (by decide) (by omega) ga_n V, ?_, ?_, fun d hd => SR_fr hd fr (SR_o (rs_sr h hd) rfl rfl rfl rfl rfl rfl (by rw [u2 8 (by decide) (by decide)]) (by rw [u2 9 (by decide) (by decide)]) (by rw [u2 10 (by decide) (by decide)]) (fun i hi => by rw [u2 11 (by decide) (by decide)])), KR_fr fr h.2.2.2.2⟩
              · refine TR0_fr fr ?_
                obtain ⟨e1, e2, e3, e4, e5, e6, e7, e8, e9, e10, e11, e12⟩ := h.2.1
                unfold TR0
                rw [upQ_ne (show 2 * 0 ≠ 2 * 0 + 1 by decide), upQ_eq]
                refine ⟨e1, by dsimp only; omega, e3, ?_, ?_, ?_, e7, ?_, ?_, fun i hi => ?_, fun i hi => ?_, fun i hi => ?_⟩
                · rw [u1, if_neg (by decide)]; exact e4
                · rw [u1, if_pos rfl]
                · rw [u1, if_neg (by decide)]; exact e6
                · rw [u1, if_neg (by decide)]; exact e8
                · rw [u1, if_neg (by decide)]; exact e9
                · rw [u2 2 (by decide) (by decide)]; exact e10 i hi
                · rw [u26, u27]
                  dsimp only at hi ⊢
                  by_cases z : i = (Q (2 * 0 + 1)).1
                  · rw [if_pos z, if_pos z, if_pos z]; exact ⟨V, rfl, W.symm, w, hw, W⟩
                  · rw [if_neg z, if_neg z, if_neg z]; exact e11 i (by omega)
                · rw [u2 4 (by decide) (by decide)]; exact e12 i hi
              · exact IR_fr fr (IR_q (upQ_ne (by decide)) (upQ_ne (by decide)) (by rw [u1, if_neg (by decide)]) (u2 16 (by decide) (by decide)) h.2.2.1)
            · rw [if_neg q, if_neg q]
              exact ⟨Q, nw, RS_D h (GI_app _ h.1)⟩
          · rw [if_neg h2, if_neg h3]; exact ⟨Q, nw, h⟩
        · rw [if_neg q3, if_neg q3]; exact ⟨Q, nw, h⟩
      · rw [if_neg q2, if_neg q2]; exact ⟨Q, nw, h⟩
    · rw [if_neg q1, if_neg q1]; exact ⟨Q, nw, h⟩
  · rw [if_neg q0, if_neg q0]; exact ⟨Q, nw, h⟩
/-- numbers of a trial, told otherwise -/
theorem TR_cg {nl nw ns : Nat} {ql qs : Nat → SY} {cw ct cw2 ct2 : Int32} {ck ck2 : Nat → Int32} {ml mw ms mt ml2 mw2 ms2 mt2 : Int32} {lw kn sy who lw2 kn2 sy2 who2 : Nat → Int32} (h : TR nl ql nw ns qs cw ct ck ml mw ms mt lw kn sy who)
    (a1 : cw2 = cw) (a2 : ct2 = ct) (a3 : ∀ w, w < 5 → ck2 w = ck w) (b1 : ml2 = ml) (b2 : mw2 = mw) (b3 : ms2 = ms) (b4 : mt2 = mt) (d1 : ∀ i, i < 6 → lw2 i = lw i) (d2 : ∀ i, i < 5 → kn2 i = kn i) (d3 : ∀ i, i < 10 → sy2 i = sy i) (d4 : ∀ i, i < 10 → who2 i = who i) : TR nl ql nw ns qs cw2 ct2 ck2 ml2 mw2 ms2 mt2 lw2 kn2 sy2 who2 := by
  obtain ⟨e1, e2, e3, e4, e5, e6, e7, e8, e9, e10, e11, e12⟩ := h
  subst a1 a2 b1 b2 b3 b4
  refine ⟨e1, e2, e3, e4, e5, e6, e7, e8, e9, fun i hi => ?_, fun i hi => ?_, fun j hj => ?_⟩
  · rw [d1 i (by omega)]; exact e10 i hi
  · rw [d3 i (by omega), d4 i (by omega)]; exact e11 i hi
  · rw [d2 j (by omega), a3 j (by omega)]; exact e12 j hj
theorem beQ_t {t u : Nat} {Q : QT} (ht : t < 3) : beQ t u Q (2 * t) = Q (2 * u) ∧ beQ t u Q (2 * t + 1) = Q (2 * u + 1) ∧ ∀ l, l ≠ 2 * t → l ≠ 2 * t + 1 → beQ t u Q l = Q l := by
  unfold beQ
  refine ⟨?_, ?_, fun l h1 h2 => ?_⟩
  · rw [upQ_ne (by omega), upQ_eq]
  · rw [upQ_eq]
  · rw [upQ_ne h2, upQ_ne h1]
theorem rs_image (h : RS c D Q nw s) : ∃ Q2 nw2, RS (imgP c D Q).1 (imgP c D Q).2 Q2 nw2 (imS s) := by
  obtain ⟨v1, v2, v3, v4, v5, v6⟩ := be_v (t := 1) (u := 0) (n0 := (Q (2 * 0)).1) (n1 := (Q (2 * 0 + 1)).1) (p := (c, D)) (by decide) (by decide) (by decide)
  have hG := be_G h.1 (t := 1) (u := 0) (by decide) (by decide) (by decide)
  obtain ⟨b0, b1, b2⟩ := beQ_t (t := 1) (u := 0) (Q := Q) (by decide)
  refine ⟨beQ 1 0 Q, nw, ?_⟩
  unfold imgP
  generalize beP 1 0 (Q (2 * 0)).1 (Q (2 * 0 + 1)).1 (c, D) = p at v1 v2 v3 v4 v5 v6 hG ⊢
  dsimp only at v1 v2 v3 v4 v5 v6 hG ⊢
  have w1 : ∀ k, (cu1 p.1 0 1).1 k = if k = 0 then 1 else p.1.1 k := fun k => rfl
  obtain ⟨k1, k2, k3, k4, k5, k6, k7⟩ := kp_v (k := 16) (by decide) (mu1 s 15 1)
  have K1 : (imS s).1 = (mu1 s 15 1).1 := kp_1 16 _
  have K2 : ∀ j, j ≠ 16 → (imS s).2.1 j = s.2.1 j := fun j hj => kp_2 hj _
  have T := h.2.1
  refine ⟨GI_c hG (fun l hl => by rw [w1, if_neg (by omega)]) (fun l hl => rfl), ?_, Or.inr ⟨?_, ?_, nw, ?_⟩, fun d hd => ?_, fun d hd => ?_⟩
  · unfold TR0
    rw [b2 (2 * 0) (by decide) (by decide), b2 (2 * 0 + 1) (by decide) (by decide)]
    refine TR_cg T ?_ ?_ (fun w hw => ?_) (by rw [K1]; rfl) (by rw [K1]; rfl) (by rw [K1]; rfl) (by rw [K1]; rfl) (fun i _ => by rw [K2 2 (by decide)]) (fun i _ => by rw [K2 4 (by decide)]) (fun i _ => by rw [K2 6 (by decide)]) (fun i _ => by rw [K2 7 (by decide)])
    · rw [w1, if_neg (by decide)]; exact v1 _ (by decide) (by decide) (by decide)
    · rw [w1, if_neg (by decide)]; exact v1 _ (by decide) (by decide) (by decide)
    · exact congrFun (v4 0 (by decide)) w
  · rw [w1, if_pos rfl]
  · rw [K1]; rfl
  · unfold TR1
    rw [b0, b1]
    refine TR_cg T ?_ ?_ (fun w hw => ?_) k4 k5 k6 k7 k1 k2 (fun i hi => (k3 i hi).1) (fun i hi => (k3 i hi).2)
    · rw [w1, if_neg (by decide)]; exact v2
    · rw [w1, if_neg (by decide)]; exact v3
    · exact v5 w hw
  · exact SR_o (rs_sr h hd) (by rw [w1, if_neg (by omega)]; exact v1 _ (by omega) (by omega) (by omega)) (by rw [w1, if_neg (by omega)]; exact v1 _ (by omega) (by omega) (by omega)) (by rw [w1, if_neg (by omega)]; exact v1 _ (by omega) (by omega) (by omega)) (by rw [w1, if_neg (by omega)]; exact v1 _ (by omega) (by omega) (by omega))
      (v4 _ (by omega)) (v6 _ (by omega)) (by rw [K2 8 (by decide)]) (by rw [K2 9 (by decide)]) (by rw [K2 10 (by decide)]) (fun i hi => by rw [K2 11 (by decide)])
  · obtain ⟨x, hx, z⟩ := h.2.2.2.2 d hd
    exact ⟨x, hx, (v6 _ (by omega)).trans z⟩
theorem eq_restore (h : RS c D Q nw s) : rstR c Q = reM s := by
  unfold rstR reM
  rcases h.2.2.1 with ⟨a, b⟩ | ⟨a, b, nw1, T⟩
  · rw [a, b]; rfl
  · rw [a, b, if_neg (by decide), if_neg (by decide)]
    obtain ⟨g0, g1, g2, g3, g4, g5, g6, g7, g8⟩ := ag_v (k := 16) (by decide) s
    rw [g6]
    exact T.2.2.2.2.1.symm
theorem rs_restore (h : RS c D Q nw s) : ∃ Q2 nw2, RS (rstP c D Q).1 (rstP c D Q).2 Q2 nw2 (reS s) := by
  unfold rstP reS
  rcases h.2.2.1 with ⟨a, b⟩ | ⟨a, b, nw1, T⟩
  · rw [a, b]; exact ⟨Q, nw, h⟩
  · rw [a, b, if_neg (by decide), if_neg (by decide)]
    obtain ⟨v1, v2, v3, v4, v5, v6⟩ := be_v (t := 0) (u := 1) (n0 := (Q (2 * 1)).1) (n1 := (Q (2 * 1 + 1)).1) (p := (c, D)) (by decide) (by decide) (by decide)
    have hG := be_G h.1 (t := 0) (u := 1) (by decide) (by decide) (by decide)
    obtain ⟨b0, b1, b2⟩ := beQ_t (t := 0) (u := 1) (Q := Q) (by decide)
    refine ⟨beQ 0 1 Q, nw1, ?_⟩
    generalize beP 0 1 (Q (2 * 1)).1 (Q (2 * 1 + 1)).1 (c, D) = p at v1 v2 v3 v4 v5 v6 hG ⊢
    dsimp only at v1 v2 v3 v4 v5 v6 hG
    obtain ⟨g0, g1, g2, g3, g4, g5, g6, g7, g8⟩ := ag_v (k := 16) (by decide) s
    refine ⟨hG, ?_, Or.inr ⟨?_, ?_, nw1, ?_⟩, fun d hd => ?_, fun d hd => ?_⟩
    · unfold TR0
      rw [b0, b1]
      exact TR_cg T v2 v3 v5 g4 g5 g6 g7 g1 g2 (fun i hi => (g3 i hi).1) (fun i hi => (g3 i hi).2)
    · exact (v1 0 (by decide) (by decide) (by decide)).trans a
    · exact (g8 15 (by decide) (by decide) (by decide) (by decide)).trans b
    · unfold TR1
      rw [b2 (2 * 1) (by decide) (by decide), b2 (2 * 1 + 1) (by decide) (by decide), g0 16 (by decide) (by decide) (by decide) (by decide)]
      exact TR_cg T (v1 _ (by decide) (by decide) (by decide)) (v1 _ (by decide) (by decide) (by decide)) (fun w hw => congrFun (v4 1 (by decide)) w) rfl rfl rfl rfl (fun _ _ => rfl) (fun _ _ => rfl) (fun _ _ => rfl) (fun _ _ => rfl)
    · exact SR_o (rs_sr h hd) (v1 _ (by omega) (by omega) (by omega)) (v1 _ (by omega) (by omega) (by omega)) (v1 _ (by omega) (by omega) (by omega)) (v1 _ (by omega) (by omega) (by omega))
        (v4 _ (by omega)) (v6 _ (by omega)) (by rw [g0 8 (by decide) (by decide) (by decide) (by decide)]) (by rw [g0 9 (by decide) (by decide) (by decide) (by decide)]) (by rw [g0 10 (by decide) (by decide) (by decide) (by decide)]) (fun i hi => by rw [g0 11 (by decide) (by decide) (by decide) (by decide)])
    · obtain ⟨x, hx, z⟩ := h.2.2.2.2 d hd
      exact ⟨x, hx, (v6 _ (by omega)).trans z⟩
end
