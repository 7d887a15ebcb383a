/-! how far the heap grows; the law's own cell stays -/
def upD (a b : Nat) (D E : List ab_E) : Prop := E.length ≤ D.length + a ∧ ab_sz E ≤ ab_sz D + b ∧ ∀ f, D[0]? = some (eCell f) → E[0]? = some (eCell f)
theorem up_rf (D : List ab_E) : upD 0 0 D D := ⟨Nat.le_refl _, Nat.le_refl _, fun _ h => h⟩
theorem up_tr {a b a2 b2 : Nat} {D E F : List ab_E} (h : upD a b D E) (k : upD a2 b2 E F) : upD (a + a2) (b + b2) D F := ⟨by have := h.1; have := k.1; omega, by have := h.2.1; have := k.2.1; omega, fun f q => k.2.2 f (h.2.2 f q)⟩
theorem up_le {a b a2 b2 : Nat} {D E : List ab_E} (h : upD a b D E) (h1 : a ≤ a2) (h2 : b ≤ b2) : upD a2 b2 D E := ⟨by have := h.1; omega, by have := h.2.1; omega, h.2.2⟩
theorem up_app {D : List ab_E} {x : ab_E} {b : Nat} (h : ab_szE x = b) : upD 1 b D (D ++ [x]) := ⟨by rw [List.length_append]; exact Nat.le_refl _, by rw [ab_sz_app, h]; exact Nat.le_refl _, fun f q => ga_o q⟩
theorem up_set {D : List ab_E} {e : Nat} {f : Nat → Option Nat} {x : ab_E} (h : D[e]? = some (.inl (2, 10, .inr (.inr (.inr (.inr f)))))) (hs : ab_szE x = 10) : upD 0 0 D (D.set e x) := by
  refine ⟨by rw [List.length_set]; exact Nat.le_refl _, by rw [ab_sz_set h hs]; exact Nat.le_refl _, fun g q => ?_⟩
  refine gs_n (fun e0 => ?_) q
  subst e0
  have := Option.some.inj (h.symm.trans q)
  cases this
theorem up_ad {c : CS} {D : List ab_E} {l n r : Nat} {q : Nat → SY} (hL : cL c D l n q) : upD 1 10 D (adP l r (c, D)).2 := by
  obtain ⟨h1, h2, h3, h4⟩ := hL
  rcases h3 with ⟨h0, hv⟩ | ⟨e, f, hv, hD, hf⟩
  · rw [adP_0 hv]; exact up_app rfl
  · rw [adP_1 hv hD h1 h2]; exact up_le (up_set hD rfl) (by decide) (by decide)
theorem up_cl {c : CS} {D : List ab_E} {l n : Nat} {q : Nat → SY} (hL : cL c D l n q) : upD 0 0 D (clP l (c, D)).2 := by
  obtain ⟨h1, h2, h3, h4⟩ := hL
  rcases h3 with ⟨h0, hv⟩ | ⟨e, f, hv, hD, hf⟩
  · rw [clP_0 hv]; exact up_rf _
  · rw [clP_1 hv hD h1 h2]; exact up_set hD rfl
theorem up_rm {c : CS} {D : List ab_E} {l n : Nat} {q : Nat → SY} (hL : cL c D l (n + 1) q) : upD 0 0 D (rmP l (c, D)).2 := by
  obtain ⟨h1, h2, h3, h4⟩ := hL
  rcases h3 with ⟨h0, hv⟩ | ⟨e, f, hv, hD, hf⟩
  · omega
  · rw [rmP_1 hv hD h1 (by omega)]; exact up_set hD rfl
theorem up_rfP {c : CS} {D : List ab_E} {Q : Nat → Nat × (Nat → SY)} {l k : Nat} (h : GI c D Q) (hl : l < 6) (hk : k < 6) (hne : l ≠ k) : ∀ i, i ≤ (Q k).1 → upD i (10 * i) D (acc (adS l k) (clP l (c, D)) i).2
  | 0, _ => up_cl (h.1 l hl)
  | i + 1, hi => up_le (up_tr (up_rfP h hl hk hne i (by omega)) (up_ad (rf_l h hl hk hne (show i ≤ (Q k).1 by omega)))) (Nat.le_refl _) (by omega)
theorem up_be {c : CS} {D : List ab_E} {Q : Nat → Nat × (Nat → SY)} {t u : Nat} (h : GI c D Q) (ht : t < 3) (hu : u < 3) (hne : t ≠ u) : upD 20 200 D (beP t u (Q (2 * u)).1 (Q (2 * u + 1)).1 (c, D)).2 := by
  have a := up_rfP h (l := 2 * t) (k := 2 * u) (by omega) (by omega) (by omega) (Q (2 * u)).1 (Nat.le_refl _)
  have b := up_rfP (be_1 h ht hu hne) (l := 2 * t + 1) (k := 2 * u + 1) (by omega) (by omega) (by omega) (Q (2 * u + 1)).1 (by rw [upQ_ne (by omega)]; exact Nat.le_refl _)
  have h1 := (h.1 (2 * u) (by omega)).2.1
  have h2 := (h.1 (2 * u + 1) (by omega)).2.1
  exact up_le (up_tr a b) (by omega) (by omega)
theorem up_enL {n d : Nat} {a : Int32} {c : CS} {D : List ab_E} {Q : Nat → Nat × (Nat → SY)} (h : GI c D Q) : upD 2 16 D (enL1 n d a (c, D)).1.2 := by
  unfold enL1
  repeat' split
  · exact up_tr (up_app (b := 6) rfl) (up_ad ((GI_app _ h).1 (2 * 2) (by decide)))
  · exact up_le (up_app (b := 6) rfl) (by decide) (by decide)
  · exact up_le (up_rf _) (by decide) (by decide)
theorem up_enS {n d : Nat} {a : Int32} {c : CS} {D : List ab_E} {Q : Nat → Nat × (Nat → SY)} (h : GI c D Q) : upD 2 16 D (enS1 n d a (c, D)).1.2 := by
  unfold enS1
  repeat' split
  · exact up_tr (up_app (b := 6) rfl) (up_ad ((GI_app _ h).1 (2 * 2 + 1) (by decide)))
  · exact up_le (up_app (b := 6) rfl) (by decide) (by decide)
  · exact up_le (up_app (b := 6) rfl) (by decide) (by decide)
  · exact up_le (up_rf _) (by decide) (by decide)
theorem up_enP {n4 n5 d : Nat} {a : Int32} {c : CS} {D : List ab_E} {Q : Nat → Nat × (Nat → SY)} (h : GI c D Q) : upD 2 16 D (enP n4 n5 d a (c, D)).1.2 := by
  unfold enP
  split
  · exact up_enL h
  · split
    · exact up_enS h
    · repeat' split
      all_goals exact up_le (up_rf _) (by decide) (by decide)
theorem up_enX {d : Nat} {a : Int32} {p : CD} {Q : Nat → Nat × (Nat → SY)} (h : GI p.1 p.2 Q) : upD 2 16 p.2 (enX d a p).1.2 := by
  rw [← enX_e h]
  exact up_enP h
theorem up_en {c : CS} {d n : Nat} (hn : c.1 (80 + d) = nI n) (hn2 : n ≤ 100) : ∀ (m k a : Nat) (p : CD) (Q : Nat → Nat × (Nat → SY)) (nw : Nat), a ≤ 107 → (nI a < c.1 (80 + d) → ∃ q, bpN c d q a < 0 ∧ 101 ≤ a + q) → enI c p Q nw → upD (2 * m) (16 * m) p.2 (enN d m k a p).1.2
  | 0, k, a, p, Q, nw, _, _, h => up_rf _
  | m + 1, k, a, p, Q, nw, ha, hg, h => by
    have e8 : p.1.1 (80 + d) = c.1 (80 + d) := h.2.1.1 (80 + d) (by omega) (by omega) (by omega)
    rw [enN_s, e8]
    by_cases c1 : nI a < c.1 (80 + d)
    · rw [if_pos c1]
      have han : a < n := by rw [hn] at c1; exact (nI_ltI (by omega) (by omega)).mp c1
      obtain ⟨q, hb, hq⟩ := hg c1
      obtain ⟨Q2, nw2, z1, z2, z3, mm, hm5, hm, hgo⟩ := enX_I (by omega) hb hq h
      by_cases c2 : (enX d (nI a) p).2 = true
      · rw [if_pos c2, nu_fr h.2.1, hm, tn_nI (by omega), show a + (mm + 2) = a + (mm + 1) + 1 by omega]
        exact up_le (up_tr (up_enX h.1) (up_en hn hn2 m (k + 1) (a + (mm + 1) + 1) _ Q2 nw2 (by omega) hgo z1)) (by omega) (by omega)
      · rw [if_neg c2]
        exact up_le (up_enX h.1) (by omega) (by omega)
    · rw [if_neg c1]
      exact up_le (up_rf _) (by omega) (by omega)
theorem up_ena {c : CS} {D : List ab_E} {Q : Nat → Nat × (Nat → SY)} {nw d n : Nat} (h : GI c D Q) (hw : c.1 (10 + 0) = nI nw) (hw5 : nw ≤ 5) (hn : c.1 (80 + d) = nI n) (hn2 : n ≤ 100) (hb : bpN c d 101 0 < 0) : upD 94 832 D (enaP d c D Q).2 := by
  have hg : nI 0 < c.1 (80 + d) → ∃ q, bpN c d q 0 < 0 ∧ 101 ≤ 0 + q := fun _ => ⟨101, hb, by omega⟩
  obtain ⟨Q2, nw2, z1, z2, z3⟩ := en_I hn hn2 27 0 0 (enB c D Q) _ nw (by omega) hg (enB_I h hw hw5)
  have z0 := up_en hn hn2 27 0 0 (enB c D Q) _ nw (by omega) hg (enB_I h hw hw5)
  have e0 : upD 20 200 D (enB c D Q).2 := up_be h (by decide) (by decide) (by decide)
  unfold enaP
  split
  · have e1 := up_be (t := 0) (u := 2) z1.1 (by decide) (by decide) (by decide)
    rw [enF_e z1.1] at e1
    exact up_le (up_tr (up_tr e0 z0) e1) (by decide) (by decide)
  · exact up_le (up_tr e0 z0) (by decide) (by decide)
theorem up_trl {c : CS} {D : List ab_E} {Q : Nat → Nat × (Nat → SY)} {nw : Nat} (h : GI c D Q) (hR : rwI c) (hw : c.1 (10 + 0) = nI nw) (hw5 : nw ≤ 5) {d : Int32} : upD 100 1000 D (trlP c D Q d).2 := by
  unfold trlP
  split
  · rename_i h1
    obtain ⟨j, hj, -, hjt⟩ := iw_7 h1
    rw [hjt]
    split
    · rename_i h2
      obtain ⟨n, hn, hsec⟩ := hR _ hj (rf2 h2)
      split
      · split
        · exact up_le (up_ena h hw hw5 hsec hn ‹_›) (by decide) (by decide)
        · exact up_le (up_rf _) (by decide) (by decide)
      · exact up_le (up_rf _) (by decide) (by decide)
    · exact up_le (up_rf _) (by decide) (by decide)
  · exact up_le (up_rf _) (by decide) (by decide)
theorem up_rul {c : CS} {D : List ab_E} {Q : Nat → Nat × (Nat → SY)} (h : GI c D Q) {nl : Nat} {d a b : Int32} : upD 100 1000 D (rulP c D nl d a b).2 := by
  unfold rulP
  repeat' split
  · exact up_le (up_tr (up_app (b := 6) rfl) (up_ad ((GI_app _ h).1 (2 * 0) (by decide)))) (by decide) (by decide)
  · exact up_le (up_app (b := 6) rfl) (by decide) (by decide)
  all_goals exact up_le (up_rf _) (by decide) (by decide)
theorem up_say {c : CS} {D : List ab_E} {Q : Nat → Nat × (Nat → SY)} (h : GI c D Q) {ns : Nat} {w d a b : Int32} : upD 100 1000 D (sayP c D ns w d a b).2 := by
  unfold sayP
  repeat' split
  · exact up_le (up_tr (up_app (b := 6) rfl) (up_ad ((GI_app _ h).1 (2 * 0 + 1) (by decide)))) (by decide) (by decide)
  · exact up_le (up_app (b := 6) rfl) (by decide) (by decide)
  all_goals exact up_le (up_rf _) (by decide) (by decide)
theorem up_uns {c : CS} {D : List ab_E} {Q : Nat → Nat × (Nat → SY)} (h : GI c D Q) : upD 100 1000 D (unsP c D (Q (2 * 0 + 1)).1).2 := by
  unfold unsP
  split
  · exact up_le (up_rf _) (by decide) (by decide)
  · rename_i q
    obtain ⟨n, hn⟩ : ∃ n, (Q (2 * 0 + 1)).1 = n + 1 := ⟨(Q (2 * 0 + 1)).1 - 1, by omega⟩
    have z := h.1 (2 * 0 + 1) (by decide)
    rw [hn] at z
    exact up_le (up_rm z) (by decide) (by decide)
theorem up_img {c : CS} {D : List ab_E} {Q : Nat → Nat × (Nat → SY)} (h : GI c D Q) : upD 100 1000 D (imgP c D Q).2 := up_le (up_be h (by decide) (by decide) (by decide)) (by decide) (by decide)
theorem up_rst {c : CS} {D : List ab_E} {Q : Nat → Nat × (Nat → SY)} (h : GI c D Q) : upD 100 1000 D (rstP c D Q).2 := by
  unfold rstP
  split
  · exact up_le (up_rf _) (by decide) (by decide)
  · exact up_le (up_be h (by decide) (by decide) (by decide)) (by decide) (by decide)
