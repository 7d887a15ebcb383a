theorem ab_isref (G : ab_G) {v : Value} (hv : v = .null ∨ (∃ a, v = .ref a) ∨ ∃ x, v = .float x) : ab_ren G v = .null ∨ ∃ a, ab_ren G v = .ref a := by
  rcases hv with rfl | ⟨a, rfl⟩ | ⟨x, rfl⟩
  · exact Or.inl rfl
  · exact Or.inr ⟨_, rfl⟩
  · exact Or.inr ⟨_, rfl⟩
theorem ab_iconst {G : ab_G} {M : ab_M} {X : ab_X} {pc : Nat} {l : List (Nat × Value)} {st : List Value} {h : List ab_E} (hX : ab_Good G M X) {n : Int} {v : Int32} (hm : decode M.2.1 pc = .ok (.iconst n, 1)) (hv : Int32.ofInt n = v) (k : ab_WA G M X (pc + 1) l (.int v :: st) h) : ab_WA G M X pc l st h := by
  obtain ⟨p, e, R, s, m, args, below, meth, c, Q, h0⟩ := X
  obtain ⟨hx, hb, hml, hr, hlk, hown, hts, hal, hsz, hkp, hnm, hrf, hrl, hG⟩ := hX
  refine ⟨k.1, k.2.1, fun ls H locs g1 g2 hl hR hS => ?_⟩
  exact lv_iconst hx hb hm hv (k.2.2 ls H locs g1 g2 hl hR hS)
theorem ab_bipush {G : ab_G} {M : ab_M} {X : ab_X} {pc : Nat} {l : List (Nat × Value)} {st : List Value} {h : List ab_E} (hX : ab_Good G M X) {n : Int} {v : Int32} (hm : decode M.2.1 pc = .ok (.bipush n, 2)) (hv : (Int8.ofInt n).toInt32 = v) (k : ab_WA G M X (pc + 2) l (.int v :: st) h) : ab_WA G M X pc l st h := by
  obtain ⟨p, e, R, s, m, args, below, meth, c, Q, h0⟩ := X
  obtain ⟨hx, hb, hml, hr, hlk, hown, hts, hal, hsz, hkp, hnm, hrf, hrl, hG⟩ := hX
  refine ⟨k.1, k.2.1, fun ls H locs g1 g2 hl hR hS => ?_⟩
  exact lv_bipush hx hb hm hv (k.2.2 ls H locs g1 g2 hl hR hS)
theorem ab_sipush {G : ab_G} {M : ab_M} {X : ab_X} {pc : Nat} {l : List (Nat × Value)} {st : List Value} {h : List ab_E} (hX : ab_Good G M X) {n : Int} {v : Int32} (hm : decode M.2.1 pc = .ok (.sipush n, 3)) (hv : (Int16.ofInt n).toInt32 = v) (k : ab_WA G M X (pc + 3) l (.int v :: st) h) : ab_WA G M X pc l st h := by
  obtain ⟨p, e, R, s, m, args, below, meth, c, Q, h0⟩ := X
  obtain ⟨hx, hb, hml, hr, hlk, hown, hts, hal, hsz, hkp, hnm, hrf, hrl, hG⟩ := hX
  refine ⟨k.1, k.2.1, fun ls H locs g1 g2 hl hR hS => ?_⟩
  exact lv_sipush hx hb hm hv (k.2.2 ls H locs g1 g2 hl hR hS)
theorem ab_lconst {G : ab_G} {M : ab_M} {X : ab_X} {pc : Nat} {l : List (Nat × Value)} {st : List Value} {h : List ab_E} (hX : ab_Good G M X) {n : Fin 2} {v : Int64} (hm : decode M.2.1 pc = .ok (.lconst n, 1)) (hv : Int64.ofNat (n : Nat) = v) (k : ab_WA G M X (pc + 1) l (.long v :: st) h) : ab_WA G M X pc l st h := by
  obtain ⟨p, e, R, s, m, args, below, meth, c, Q, h0⟩ := X
  obtain ⟨hx, hb, hml, hr, hlk, hown, hts, hal, hsz, hkp, hnm, hrf, hrl, hG⟩ := hX
  refine ⟨k.1, k.2.1, fun ls H locs g1 g2 hl hR hS => ?_⟩
  exact lv_lconst hx hb hm hv (k.2.2 ls H locs g1 g2 hl hR hS)
theorem ab_ldc {G : ab_G} {M : ab_M} {X : ab_X} {pc : Nat} {l : List (Nat × Value)} {st : List Value} {h : List ab_E} (hX : ab_Good G M X) {i : Nat} {v : Int32} (hm : decode M.2.1 pc = .ok (.ldc i, 2)) (hw : Cond.constant M.1.cls i v ∈ ab_Tg) (k : ab_WA G M X (pc + 2) l (.int v :: st) h) : ab_WA G M X pc l st h := by
  obtain ⟨p, e, R, s, m, args, below, meth, c, Q, h0⟩ := X
  obtain ⟨hx, hb, hml, hr, hlk, hown, hts, hal, hsz, hkp, hnm, hrf, hrl, hG⟩ := hX
  refine ⟨k.1, k.2.1, fun ls H locs g1 g2 hl hR hS => ?_⟩
  exact lv_ldc hx hb hown (hts _ hw) hm (k.2.2 ls H locs g1 g2 hl hR hS)
theorem ab_ldcw {G : ab_G} {M : ab_M} {X : ab_X} {pc : Nat} {l : List (Nat × Value)} {st : List Value} {h : List ab_E} (hX : ab_Good G M X) {i : Nat} {v : Int32} (hm : decode M.2.1 pc = .ok (.ldc_w i, 3)) (hw : Cond.constant M.1.cls i v ∈ ab_Tg) (k : ab_WA G M X (pc + 3) l (.int v :: st) h) : ab_WA G M X pc l st h := by
  obtain ⟨p, e, R, s, m, args, below, meth, c, Q, h0⟩ := X
  obtain ⟨hx, hb, hml, hr, hlk, hown, hts, hal, hsz, hkp, hnm, hrf, hrl, hG⟩ := hX
  refine ⟨k.1, k.2.1, fun ls H locs g1 g2 hl hR hS => ?_⟩
  exact lv_ldcw hx hb hown (hts _ hw) hm (k.2.2 ls H locs g1 g2 hl hR hS)
theorem ab_ldc2 {G : ab_G} {M : ab_M} {X : ab_X} {pc : Nat} {l : List (Nat × Value)} {st : List Value} {h : List ab_E} (hX : ab_Good G M X) {i : Nat} {v : Int64} (hm : decode M.2.1 pc = .ok (.ldc2_w i, 3)) (hw : Cond.constantLong M.1.cls i v ∈ ab_Tg) (k : ab_WA G M X (pc + 3) l (.long v :: st) h) : ab_WA G M X pc l st h := by
  obtain ⟨p, e, R, s, m, args, below, meth, c, Q, h0⟩ := X
  obtain ⟨hx, hb, hml, hr, hlk, hown, hts, hal, hsz, hkp, hnm, hrf, hrl, hG⟩ := hX
  refine ⟨k.1, k.2.1, fun ls H locs g1 g2 hl hR hS => ?_⟩
  exact lv_ldc2 hx hb hown (hts _ hw) hm (k.2.2 ls H locs g1 g2 hl hR hS)
theorem ab_null {G : ab_G} {M : ab_M} {X : ab_X} {pc : Nat} {l : List (Nat × Value)} {st : List Value} {h : List ab_E} (hX : ab_Good G M X) (hm : decode M.2.1 pc = .ok (.aconst_null, 1)) (k : ab_WA G M X (pc + 1) l (.null :: st) h) : ab_WA G M X pc l st h := by
  obtain ⟨p, e, R, s, m, args, below, meth, c, Q, h0⟩ := X
  obtain ⟨hx, hb, hml, hr, hlk, hown, hts, hal, hsz, hkp, hnm, hrf, hrl, hG⟩ := hX
  refine ⟨k.1, k.2.1, fun ls H locs g1 g2 hl hR hS => ?_⟩
  exact lv_null hx hb hm (k.2.2 ls H locs g1 g2 hl hR hS)
theorem ab_iload_n {G : ab_G} {M : ab_M} {X : ab_X} {pc : Nat} {l : List (Nat × Value)} {st : List Value} {h : List ab_E} (hX : ab_Good G M X) {j : Fin 4} {x : Int32} (hm : decode M.2.1 pc = .ok (.iload_n j, 1)) (hl0 : ((j : Nat), Value.int x) ∈ l) (k : ab_WA G M X (pc + 1) l (.int x :: st) h) : ab_WA G M X pc l st h := by
  obtain ⟨p, e, R, s, m, args, below, meth, c, Q, h0⟩ := X
  obtain ⟨hx, hb, hml, hr, hlk, hown, hts, hal, hsz, hkp, hnm, hrf, hrl, hG⟩ := hX
  refine ⟨k.1, k.2.1, fun ls H locs g1 g2 hl hR hS => ?_⟩
  exact lv_iload_n hx hb hm rfl (ab_lat hl hl0) (k.2.2 ls H locs g1 g2 hl hR hS)
theorem ab_iload {G : ab_G} {M : ab_M} {X : ab_X} {pc : Nat} {l : List (Nat × Value)} {st : List Value} {h : List ab_E} (hX : ab_Good G M X) {j : Nat} {x : Int32} (hm : decode M.2.1 pc = .ok (.iload j, 2)) (hl0 : (j, Value.int x) ∈ l) (k : ab_WA G M X (pc + 2) l (.int x :: st) h) : ab_WA G M X pc l st h := by
  obtain ⟨p, e, R, s, m, args, below, meth, c, Q, h0⟩ := X
  obtain ⟨hx, hb, hml, hr, hlk, hown, hts, hal, hsz, hkp, hnm, hrf, hrl, hG⟩ := hX
  refine ⟨k.1, k.2.1, fun ls H locs g1 g2 hl hR hS => ?_⟩
  exact lv_iload hx hb hm (ab_lat hl hl0) (k.2.2 ls H locs g1 g2 hl hR hS)
theorem ab_lload_n {G : ab_G} {M : ab_M} {X : ab_X} {pc : Nat} {l : List (Nat × Value)} {st : List Value} {h : List ab_E} (hX : ab_Good G M X) {j : Fin 4} {x : Int64} (hm : decode M.2.1 pc = .ok (.lload_n j, 1)) (hl0 : ((j : Nat), Value.long x) ∈ l) (k : ab_WA G M X (pc + 1) l (.long x :: st) h) : ab_WA G M X pc l st h := by
  obtain ⟨p, e, R, s, m, args, below, meth, c, Q, h0⟩ := X
  obtain ⟨hx, hb, hml, hr, hlk, hown, hts, hal, hsz, hkp, hnm, hrf, hrl, hG⟩ := hX
  refine ⟨k.1, k.2.1, fun ls H locs g1 g2 hl hR hS => ?_⟩
  exact lv_lload_n hx hb hm rfl (ab_lat hl hl0) (k.2.2 ls H locs g1 g2 hl hR hS)
theorem ab_lload {G : ab_G} {M : ab_M} {X : ab_X} {pc : Nat} {l : List (Nat × Value)} {st : List Value} {h : List ab_E} (hX : ab_Good G M X) {j : Nat} {x : Int64} (hm : decode M.2.1 pc = .ok (.lload j, 2)) (hl0 : (j, Value.long x) ∈ l) (k : ab_WA G M X (pc + 2) l (.long x :: st) h) : ab_WA G M X pc l st h := by
  obtain ⟨p, e, R, s, m, args, below, meth, c, Q, h0⟩ := X
  obtain ⟨hx, hb, hml, hr, hlk, hown, hts, hal, hsz, hkp, hnm, hrf, hrl, hG⟩ := hX
  refine ⟨k.1, k.2.1, fun ls H locs g1 g2 hl hR hS => ?_⟩
  exact lv_lload hx hb hm (ab_lat hl hl0) (k.2.2 ls H locs g1 g2 hl hR hS)
theorem ab_aload_n {G : ab_G} {M : ab_M} {X : ab_X} {pc : Nat} {l : List (Nat × Value)} {st : List Value} {h : List ab_E} (hX : ab_Good G M X) {j : Fin 4} {x : Nat} (hm : decode M.2.1 pc = .ok (.aload_n j, 1)) (hl0 : ((j : Nat), Value.ref x) ∈ l) (k : ab_WA G M X (pc + 1) l (.ref x :: st) h) : ab_WA G M X pc l st h := by
  obtain ⟨p, e, R, s, m, args, below, meth, c, Q, h0⟩ := X
  obtain ⟨hx, hb, hml, hr, hlk, hown, hts, hal, hsz, hkp, hnm, hrf, hrl, hG⟩ := hX
  refine ⟨k.1, k.2.1, fun ls H locs g1 g2 hl hR hS => ?_⟩
  exact lv_aload_n hx hb hm rfl (ab_lat hl hl0) (k.2.2 ls H locs g1 g2 hl hR hS)
theorem ab_aload_nS {G : ab_G} {M : ab_M} {X : ab_X} {pc : Nat} {l : List (Nat × Value)} {st : List Value} {h : List ab_E} (hX : ab_Good G M X) {j : Fin 4} {x : UInt32} (hm : decode M.2.1 pc = .ok (.aload_n j, 1)) (hl0 : ((j : Nat), Value.float x) ∈ l) (k : ab_WA G M X (pc + 1) l (.float x :: st) h) : ab_WA G M X pc l st h := by
  obtain ⟨p, e, R, s, m, args, below, meth, c, Q, h0⟩ := X
  obtain ⟨hx, hb, hml, hr, hlk, hown, hts, hal, hsz, hkp, hnm, hrf, hrl, hG⟩ := hX
  refine ⟨k.1, k.2.1, fun ls H locs g1 g2 hl hR hS => ?_⟩
  exact lv_aload_n hx hb hm rfl (ab_lat hl hl0) (k.2.2 ls H locs g1 g2 hl hR hS)
theorem ab_aload {G : ab_G} {M : ab_M} {X : ab_X} {pc : Nat} {l : List (Nat × Value)} {st : List Value} {h : List ab_E} (hX : ab_Good G M X) {j : Nat} {x : Nat} (hm : decode M.2.1 pc = .ok (.aload j, 2)) (hl0 : (j, Value.ref x) ∈ l) (k : ab_WA G M X (pc + 2) l (.ref x :: st) h) : ab_WA G M X pc l st h := by
  obtain ⟨p, e, R, s, m, args, below, meth, c, Q, h0⟩ := X
  obtain ⟨hx, hb, hml, hr, hlk, hown, hts, hal, hsz, hkp, hnm, hrf, hrl, hG⟩ := hX
  refine ⟨k.1, k.2.1, fun ls H locs g1 g2 hl hR hS => ?_⟩
  exact lv_aload hx hb hm (ab_lat hl hl0) (k.2.2 ls H locs g1 g2 hl hR hS)
theorem ab_aloadS {G : ab_G} {M : ab_M} {X : ab_X} {pc : Nat} {l : List (Nat × Value)} {st : List Value} {h : List ab_E} (hX : ab_Good G M X) {j : Nat} {x : UInt32} (hm : decode M.2.1 pc = .ok (.aload j, 2)) (hl0 : (j, Value.float x) ∈ l) (k : ab_WA G M X (pc + 2) l (.float x :: st) h) : ab_WA G M X pc l st h := by
  obtain ⟨p, e, R, s, m, args, below, meth, c, Q, h0⟩ := X
  obtain ⟨hx, hb, hml, hr, hlk, hown, hts, hal, hsz, hkp, hnm, hrf, hrl, hG⟩ := hX
  refine ⟨k.1, k.2.1, fun ls H locs g1 g2 hl hR hS => ?_⟩
  exact lv_aload hx hb hm (ab_lat hl hl0) (k.2.2 ls H locs g1 g2 hl hR hS)
theorem ab_istore_n {G : ab_G} {M : ab_M} {X : ab_X} {pc : Nat} {l : List (Nat × Value)} {st : List Value} {h : List ab_E} (hX : ab_Good G M X) {j : Fin 4} {i : Nat} {x : Int32} {l2 : List (Nat × Value)} (hm : decode M.2.1 pc = .ok (.istore_n j, 1)) (hi : (j : Nat) = i) (hn : i < M.2.2.1) (hl2 : ab_st1 l i (.int x) = l2) (k : ab_WA G M X (pc + 1) l2 st h) : ab_WA G M X pc l (.int x :: st) h := by
  obtain ⟨p, e, R, s, m, args, below, meth, c, Q, h0⟩ := X
  obtain ⟨hx, hb, hml, hr, hlk, hown, hts, hal, hsz, hkp, hnm, hrf, hrl, hG⟩ := hX
  refine ⟨k.1, k.2.1, fun ls H locs g1 g2 hl hR hS => ?_⟩
  exact lv_istore_n hx hb hm hi hl hn rfl fun ls2 hl9 => k.2.2 ls2 H locs g1 g2 (by rw [← hl2, ← ab_ll_st1]; exact hl9) hR hS
theorem ab_istore {G : ab_G} {M : ab_M} {X : ab_X} {pc : Nat} {l : List (Nat × Value)} {st : List Value} {h : List ab_E} (hX : ab_Good G M X) {i : Nat} {x : Int32} {l2 : List (Nat × Value)} (hm : decode M.2.1 pc = .ok (.istore i, 2)) (hn : i < M.2.2.1) (hl2 : ab_st1 l i (.int x) = l2) (k : ab_WA G M X (pc + 2) l2 st h) : ab_WA G M X pc l (.int x :: st) h := by
  obtain ⟨p, e, R, s, m, args, below, meth, c, Q, h0⟩ := X
  obtain ⟨hx, hb, hml, hr, hlk, hown, hts, hal, hsz, hkp, hnm, hrf, hrl, hG⟩ := hX
  refine ⟨k.1, k.2.1, fun ls H locs g1 g2 hl hR hS => ?_⟩
  exact lv_istore hx hb hm hl hn rfl fun ls2 hl9 => k.2.2 ls2 H locs g1 g2 (by rw [← hl2, ← ab_ll_st1]; exact hl9) hR hS
theorem ab_astore_n {G : ab_G} {M : ab_M} {X : ab_X} {pc : Nat} {l : List (Nat × Value)} {st : List Value} {h : List ab_E} (hX : ab_Good G M X) {j : Fin 4} {i : Nat} {x : Nat} {l2 : List (Nat × Value)} (hm : decode M.2.1 pc = .ok (.astore_n j, 1)) (hi : (j : Nat) = i) (hn : i < M.2.2.1) (hl2 : ab_st1 l i (.ref x) = l2) (k : ab_WA G M X (pc + 1) l2 st h) : ab_WA G M X pc l (.ref x :: st) h := by
  obtain ⟨p, e, R, s, m, args, below, meth, c, Q, h0⟩ := X
  obtain ⟨hx, hb, hml, hr, hlk, hown, hts, hal, hsz, hkp, hnm, hrf, hrl, hG⟩ := hX
  refine ⟨k.1, k.2.1, fun ls H locs g1 g2 hl hR hS => ?_⟩
  exact lv_astore_n hx hb hm hi hl hn rfl fun ls2 hl9 => k.2.2 ls2 H locs g1 g2 (by rw [← hl2, ← ab_ll_st1]; exact hl9) hR hS
theorem ab_astore {G : ab_G} {M : ab_M} {X : ab_X} {pc : Nat} {l : List (Nat × Value)} {st : List Value} {h : List ab_E} (hX : ab_Good G M X) {i : Nat} {x : Nat} {l2 : List (Nat × Value)} (hm : decode M.2.1 pc = .ok (.astore i, 2)) (hn : i < M.2.2.1) (hl2 : ab_st1 l i (.ref x) = l2) (k : ab_WA G M X (pc + 2) l2 st h) : ab_WA G M X pc l (.ref x :: st) h := by
  obtain ⟨p, e, R, s, m, args, below, meth, c, Q, h0⟩ := X
  obtain ⟨hx, hb, hml, hr, hlk, hown, hts, hal, hsz, hkp, hnm, hrf, hrl, hG⟩ := hX
  refine ⟨k.1, k.2.1, fun ls H locs g1 g2 hl hR hS => ?_⟩
  exact lv_astore hx hb hm hl hn rfl fun ls2 hl9 => k.2.2 ls2 H locs g1 g2 (by rw [← hl2, ← ab_ll_st1]; exact hl9) hR hS
theorem ab_lstore_n {G : ab_G} {M : ab_M} {X : ab_X} {pc : Nat} {l : List (Nat × Value)} {st : List Value} {h : List ab_E} (hX : ab_Good G M X) {j : Fin 4} {i : Nat} {x : Int64} {l2 : List (Nat × Value)} (hm : decode M.2.1 pc = .ok (.lstore_n j, 1)) (hi : (j : Nat) = i) (hn : i + 1 < M.2.2.1) (hl2 : ab_st2 l i (.long x) = l2) (k : ab_WA G M X (pc + 1) l2 st h) : ab_WA G M X pc l (.long x :: st) h := by
  obtain ⟨p, e, R, s, m, args, below, meth, c, Q, h0⟩ := X
  obtain ⟨hx, hb, hml, hr, hlk, hown, hts, hal, hsz, hkp, hnm, hrf, hrl, hG⟩ := hX
  refine ⟨k.1, k.2.1, fun ls H locs g1 g2 hl hR hS => ?_⟩
  exact lv_lstore_n hx hb hm hi hl hn rfl fun ls2 hl9 => k.2.2 ls2 H locs g1 g2 (by rw [← hl2, ← ab_ll_st2]; exact hl9) hR hS
theorem ab_lstore {G : ab_G} {M : ab_M} {X : ab_X} {pc : Nat} {l : List (Nat × Value)} {st : List Value} {h : List ab_E} (hX : ab_Good G M X) {i : Nat} {x : Int64} {l2 : List (Nat × Value)} (hm : decode M.2.1 pc = .ok (.lstore i, 2)) (hn : i + 1 < M.2.2.1) (hl2 : ab_st2 l i (.long x) = l2) (k : ab_WA G M X (pc + 2) l2 st h) : ab_WA G M X pc l (.long x :: st) h := by
  obtain ⟨p, e, R, s, m, args, below, meth, c, Q, h0⟩ := X
  obtain ⟨hx, hb, hml, hr, hlk, hown, hts, hal, hsz, hkp, hnm, hrf, hrl, hG⟩ := hX
  refine ⟨k.1, k.2.1, fun ls H locs g1 g2 hl hR hS => ?_⟩
  exact lv_lstore hx hb hm hl hn rfl fun ls2 hl9 => k.2.2 ls2 H locs g1 g2 (by rw [← hl2, ← ab_ll_st2]; exact hl9) hR hS
theorem ab_aload_nN {G : ab_G} {M : ab_M} {X : ab_X} {pc : Nat} {l : List (Nat × Value)} {st : List Value} {h : List ab_E} (hX : ab_Good G M X) {j : Fin 4} (hm : decode M.2.1 pc = .ok (.aload_n j, 1)) (hl0 : ((j : Nat), Value.null) ∈ l) (k : ab_WA G M X (pc + 1) l (.null :: st) h) : ab_WA G M X pc l st h := by
  obtain ⟨p, e, R, s, m, args, below, meth, c, Q, h0⟩ := X
  obtain ⟨hx, hb, hml, hr, hlk, hown, hts, hal, hsz, hkp, hnm, hrf, hrl, hG⟩ := hX
  refine ⟨k.1, k.2.1, fun ls H locs g1 g2 hl hR hS => ?_⟩
  exact lv_aload_nN hx hb hm rfl (ab_lat hl hl0) (k.2.2 ls H locs g1 g2 hl hR hS)
theorem ab_aloadN {G : ab_G} {M : ab_M} {X : ab_X} {pc : Nat} {l : List (Nat × Value)} {st : List Value} {h : List ab_E} (hX : ab_Good G M X) {j : Nat} (hm : decode M.2.1 pc = .ok (.aload j, 2)) (hl0 : (j, Value.null) ∈ l) (k : ab_WA G M X (pc + 2) l (.null :: st) h) : ab_WA G M X pc l st h := by
  obtain ⟨p, e, R, s, m, args, below, meth, c, Q, h0⟩ := X
  obtain ⟨hx, hb, hml, hr, hlk, hown, hts, hal, hsz, hkp, hnm, hrf, hrl, hG⟩ := hX
  refine ⟨k.1, k.2.1, fun ls H locs g1 g2 hl hR hS => ?_⟩
  exact lv_aloadN hx hb hm (ab_lat hl hl0) (k.2.2 ls H locs g1 g2 hl hR hS)
theorem ab_astore_nN {G : ab_G} {M : ab_M} {X : ab_X} {pc : Nat} {l : List (Nat × Value)} {st : List Value} {h : List ab_E} (hX : ab_Good G M X) {j : Fin 4} {i : Nat} {l2 : List (Nat × Value)} (hm : decode M.2.1 pc = .ok (.astore_n j, 1)) (hi : (j : Nat) = i) (hn : i < M.2.2.1) (hl2 : ab_st1 l i .null = l2) (k : ab_WA G M X (pc + 1) l2 st h) : ab_WA G M X pc l (.null :: st) h := by
  obtain ⟨p, e, R, s, m, args, below, meth, c, Q, h0⟩ := X
  obtain ⟨hx, hb, hml, hr, hlk, hown, hts, hal, hsz, hkp, hnm, hrf, hrl, hG⟩ := hX
  refine ⟨k.1, k.2.1, fun ls H locs g1 g2 hl hR hS => ?_⟩
  exact lv_astore_nN hx hb hm hi hl hn rfl fun ls2 hl9 => k.2.2 ls2 H locs g1 g2 (by rw [← hl2, ← ab_ll_st1]; exact hl9) hR hS
theorem ab_astoreN {G : ab_G} {M : ab_M} {X : ab_X} {pc : Nat} {l : List (Nat × Value)} {st : List Value} {h : List ab_E} (hX : ab_Good G M X) {i : Nat} {l2 : List (Nat × Value)} (hm : decode M.2.1 pc = .ok (.astore i, 2)) (hn : i < M.2.2.1) (hl2 : ab_st1 l i .null = l2) (k : ab_WA G M X (pc + 2) l2 st h) : ab_WA G M X pc l (.null :: st) h := by
  obtain ⟨p, e, R, s, m, args, below, meth, c, Q, h0⟩ := X
  obtain ⟨hx, hb, hml, hr, hlk, hown, hts, hal, hsz, hkp, hnm, hrf, hrl, hG⟩ := hX
  refine ⟨k.1, k.2.1, fun ls H locs g1 g2 hl hR hS => ?_⟩
  exact lv_astoreN hx hb hm hl hn rfl fun ls2 hl9 => k.2.2 ls2 H locs g1 g2 (by rw [← hl2, ← ab_ll_st1]; exact hl9) hR hS
theorem ab_astore_nS {G : ab_G} {M : ab_M} {X : ab_X} {pc : Nat} {l : List (Nat × Value)} {st : List Value} {h : List ab_E} (hX : ab_Good G M X) {j : Fin 4} {i : Nat} {x : UInt32} {l2 : List (Nat × Value)} (hm : decode M.2.1 pc = .ok (.astore_n j, 1)) (hi : (j : Nat) = i) (hn : i < M.2.2.1) (hl2 : ab_st1 l i (.float x) = l2) (k : ab_WA G M X (pc + 1) l2 st h) : ab_WA G M X pc l (.float x :: st) h := by
  obtain ⟨p, e, R, s, m, args, below, meth, c, Q, h0⟩ := X
  obtain ⟨hx, hb, hml, hr, hlk, hown, hts, hal, hsz, hkp, hnm, hrf, hrl, hG⟩ := hX
  refine ⟨k.1, k.2.1, fun ls H locs g1 g2 hl hR hS => ?_⟩
  exact lv_astore_n hx hb hm hi hl hn rfl fun ls2 hl9 => k.2.2 ls2 H locs g1 g2 (by rw [← hl2, ← ab_ll_st1]; exact hl9) hR hS
theorem ab_astoreS {G : ab_G} {M : ab_M} {X : ab_X} {pc : Nat} {l : List (Nat × Value)} {st : List Value} {h : List ab_E} (hX : ab_Good G M X) {i : Nat} {x : UInt32} {l2 : List (Nat × Value)} (hm : decode M.2.1 pc = .ok (.astore i, 2)) (hn : i < M.2.2.1) (hl2 : ab_st1 l i (.float x) = l2) (k : ab_WA G M X (pc + 2) l2 st h) : ab_WA G M X pc l (.float x :: st) h := by
  obtain ⟨p, e, R, s, m, args, below, meth, c, Q, h0⟩ := X
  obtain ⟨hx, hb, hml, hr, hlk, hown, hts, hal, hsz, hkp, hnm, hrf, hrl, hG⟩ := hX
  refine ⟨k.1, k.2.1, fun ls H locs g1 g2 hl hR hS => ?_⟩
  exact lv_astore hx hb hm hl hn rfl fun ls2 hl9 => k.2.2 ls2 H locs g1 g2 (by rw [← hl2, ← ab_ll_st1]; exact hl9) hR hS
theorem ab_iinc {G : ab_G} {M : ab_M} {X : ab_X} {pc : Nat} {l : List (Nat × Value)} {st : List Value} {h : List ab_E} (hX : ab_Good G M X) {i : Nat} {n : Int} {x v : Int32} {l2 : List (Nat × Value)} (hm : decode M.2.1 pc = .ok (.iinc i n, 3)) (hl0 : (i, Value.int x) ∈ l) (hv : x + Int32.ofInt n = v) (hn : i < M.2.2.1) (hl2 : ab_st1 l i (.int v) = l2) (k : ab_WA G M X (pc + 3) l2 st h) : ab_WA G M X pc l st h := by
  obtain ⟨p, e, R, s, m, args, below, meth, c, Q, h0⟩ := X
  obtain ⟨hx, hb, hml, hr, hlk, hown, hts, hal, hsz, hkp, hnm, hrf, hrl, hG⟩ := hX
  refine ⟨k.1, k.2.1, fun ls H locs g1 g2 hl hR hS => ?_⟩
  obtain ⟨kp, hkp2⟩ := List.getElem?_of_mem hl0
  have hk0 : (ab_ll G l)[kp]? = some (i, .int x) := by
    unfold ab_ll
    rw [List.getElem?_map, hkp2]
    rfl
  exact lv_iinc hx hb hm hl hk0 hv hn rfl fun ls2 hl3 => k.2.2 ls2 H locs g1 g2 (by rw [← hl2, ← ab_ll_st1]; exact hl3) hR hS
theorem ab_iadd {G : ab_G} {M : ab_M} {X : ab_X} {pc : Nat} {l : List (Nat × Value)} {st : List Value} {h : List ab_E} (hX : ab_Good G M X) {x y : Int32} (hm : decode M.2.1 pc = .ok (.iadd, 1)) (k : ab_WA G M X (pc + 1) l (.int (x + y) :: st) h) : ab_WA G M X pc l (.int y :: .int x :: st) h := by
  obtain ⟨p, e, R, s, m, args, below, meth, c, Q, h0⟩ := X
  obtain ⟨hx, hb, hml, hr, hlk, hown, hts, hal, hsz, hkp, hnm, hrf, hrl, hG⟩ := hX
  refine ⟨k.1, k.2.1, fun ls H locs g1 g2 hl hR hS => ?_⟩
  exact lv_iadd hx hb hm (k.2.2 ls H locs g1 g2 hl hR hS)
theorem ab_isub {G : ab_G} {M : ab_M} {X : ab_X} {pc : Nat} {l : List (Nat × Value)} {st : List Value} {h : List ab_E} (hX : ab_Good G M X) {x y : Int32} (hm : decode M.2.1 pc = .ok (.isub, 1)) (k : ab_WA G M X (pc + 1) l (.int (x - y) :: st) h) : ab_WA G M X pc l (.int y :: .int x :: st) h := by
  obtain ⟨p, e, R, s, m, args, below, meth, c, Q, h0⟩ := X
  obtain ⟨hx, hb, hml, hr, hlk, hown, hts, hal, hsz, hkp, hnm, hrf, hrl, hG⟩ := hX
  refine ⟨k.1, k.2.1, fun ls H locs g1 g2 hl hR hS => ?_⟩
  exact lv_isub hx hb hm (k.2.2 ls H locs g1 g2 hl hR hS)
theorem ab_imul {G : ab_G} {M : ab_M} {X : ab_X} {pc : Nat} {l : List (Nat × Value)} {st : List Value} {h : List ab_E} (hX : ab_Good G M X) {x y : Int32} (hm : decode M.2.1 pc = .ok (.imul, 1)) (k : ab_WA G M X (pc + 1) l (.int (x * y) :: st) h) : ab_WA G M X pc l (.int y :: .int x :: st) h := by
  obtain ⟨p, e, R, s, m, args, below, meth, c, Q, h0⟩ := X
  obtain ⟨hx, hb, hml, hr, hlk, hown, hts, hal, hsz, hkp, hnm, hrf, hrl, hG⟩ := hX
  refine ⟨k.1, k.2.1, fun ls H locs g1 g2 hl hR hS => ?_⟩
  exact lv_imul hx hb hm (k.2.2 ls H locs g1 g2 hl hR hS)
theorem ab_iand {G : ab_G} {M : ab_M} {X : ab_X} {pc : Nat} {l : List (Nat × Value)} {st : List Value} {h : List ab_E} (hX : ab_Good G M X) {x y : Int32} (hm : decode M.2.1 pc = .ok (.iand, 1)) (k : ab_WA G M X (pc + 1) l (.int (x &&& y) :: st) h) : ab_WA G M X pc l (.int y :: .int x :: st) h := by
  obtain ⟨p, e, R, s, m, args, below, meth, c, Q, h0⟩ := X
  obtain ⟨hx, hb, hml, hr, hlk, hown, hts, hal, hsz, hkp, hnm, hrf, hrl, hG⟩ := hX
  refine ⟨k.1, k.2.1, fun ls H locs g1 g2 hl hR hS => ?_⟩
  exact lv_iand hx hb hm (k.2.2 ls H locs g1 g2 hl hR hS)
theorem ab_ior {G : ab_G} {M : ab_M} {X : ab_X} {pc : Nat} {l : List (Nat × Value)} {st : List Value} {h : List ab_E} (hX : ab_Good G M X) {x y : Int32} (hm : decode M.2.1 pc = .ok (.ior, 1)) (k : ab_WA G M X (pc + 1) l (.int (x ||| y) :: st) h) : ab_WA G M X pc l (.int y :: .int x :: st) h := by
  obtain ⟨p, e, R, s, m, args, below, meth, c, Q, h0⟩ := X
  obtain ⟨hx, hb, hml, hr, hlk, hown, hts, hal, hsz, hkp, hnm, hrf, hrl, hG⟩ := hX
  refine ⟨k.1, k.2.1, fun ls H locs g1 g2 hl hR hS => ?_⟩
  exact lv_ior hx hb hm (k.2.2 ls H locs g1 g2 hl hR hS)
theorem ab_ixor {G : ab_G} {M : ab_M} {X : ab_X} {pc : Nat} {l : List (Nat × Value)} {st : List Value} {h : List ab_E} (hX : ab_Good G M X) {x y : Int32} (hm : decode M.2.1 pc = .ok (.ixor, 1)) (k : ab_WA G M X (pc + 1) l (.int (x ^^^ y) :: st) h) : ab_WA G M X pc l (.int y :: .int x :: st) h := by
  obtain ⟨p, e, R, s, m, args, below, meth, c, Q, h0⟩ := X
  obtain ⟨hx, hb, hml, hr, hlk, hown, hts, hal, hsz, hkp, hnm, hrf, hrl, hG⟩ := hX
  refine ⟨k.1, k.2.1, fun ls H locs g1 g2 hl hR hS => ?_⟩
  exact lv_ixor hx hb hm (k.2.2 ls H locs g1 g2 hl hR hS)
theorem ab_ishl {G : ab_G} {M : ab_M} {X : ab_X} {pc : Nat} {l : List (Nat × Value)} {st : List Value} {h : List ab_E} (hX : ab_Good G M X) {x y : Int32} (hm : decode M.2.1 pc = .ok (.ishl, 1)) (k : ab_WA G M X (pc + 1) l (.int (x <<< (y &&& 31)) :: st) h) : ab_WA G M X pc l (.int y :: .int x :: st) h := by
  obtain ⟨p, e, R, s, m, args, below, meth, c, Q, h0⟩ := X
  obtain ⟨hx, hb, hml, hr, hlk, hown, hts, hal, hsz, hkp, hnm, hrf, hrl, hG⟩ := hX
  refine ⟨k.1, k.2.1, fun ls H locs g1 g2 hl hR hS => ?_⟩
  exact lv_ishl hx hb hm (k.2.2 ls H locs g1 g2 hl hR hS)
theorem ab_ishr {G : ab_G} {M : ab_M} {X : ab_X} {pc : Nat} {l : List (Nat × Value)} {st : List Value} {h : List ab_E} (hX : ab_Good G M X) {x y : Int32} (hm : decode M.2.1 pc = .ok (.ishr, 1)) (k : ab_WA G M X (pc + 1) l (.int (x >>> (y &&& 31)) :: st) h) : ab_WA G M X pc l (.int y :: .int x :: st) h := by
  obtain ⟨p, e, R, s, m, args, below, meth, c, Q, h0⟩ := X
  obtain ⟨hx, hb, hml, hr, hlk, hown, hts, hal, hsz, hkp, hnm, hrf, hrl, hG⟩ := hX
  refine ⟨k.1, k.2.1, fun ls H locs g1 g2 hl hR hS => ?_⟩
  exact lv_ishr hx hb hm (k.2.2 ls H locs g1 g2 hl hR hS)
theorem ab_iushr {G : ab_G} {M : ab_M} {X : ab_X} {pc : Nat} {l : List (Nat × Value)} {st : List Value} {h : List ab_E} (hX : ab_Good G M X) {x y : Int32} (hm : decode M.2.1 pc = .ok (.iushr, 1)) (k : ab_WA G M X (pc + 1) l (.int (x.toUInt32 >>> (y.toUInt32 &&& Int32.toUInt32 31)).toInt32 :: st) h) : ab_WA G M X pc l (.int y :: .int x :: st) h := by
  obtain ⟨p, e, R, s, m, args, below, meth, c, Q, h0⟩ := X
  obtain ⟨hx, hb, hml, hr, hlk, hown, hts, hal, hsz, hkp, hnm, hrf, hrl, hG⟩ := hX
  refine ⟨k.1, k.2.1, fun ls H locs g1 g2 hl hR hS => ?_⟩
  exact lv_iushr hx hb hm rfl (k.2.2 ls H locs g1 g2 hl hR hS)
theorem ab_idiv {G : ab_G} {M : ab_M} {X : ab_X} {pc : Nat} {l : List (Nat × Value)} {st : List Value} {h : List ab_E} (hX : ab_Good G M X) {x y : Int32} (hm : decode M.2.1 pc = .ok (.idiv, 1)) (hne : ¬ y = 0) (k : ab_WA G M X (pc + 1) l (.int (x / y) :: st) h) : ab_WA G M X pc l (.int y :: .int x :: st) h := by
  obtain ⟨p, e, R, s, m, args, below, meth, c, Q, h0⟩ := X
  obtain ⟨hx, hb, hml, hr, hlk, hown, hts, hal, hsz, hkp, hnm, hrf, hrl, hG⟩ := hX
  refine ⟨k.1, k.2.1, fun ls H locs g1 g2 hl hR hS => ?_⟩
  exact lv_idiv hx hb hm hne (k.2.2 ls H locs g1 g2 hl hR hS)
theorem ab_irem {G : ab_G} {M : ab_M} {X : ab_X} {pc : Nat} {l : List (Nat × Value)} {st : List Value} {h : List ab_E} (hX : ab_Good G M X) {x y : Int32} (hm : decode M.2.1 pc = .ok (.irem, 1)) (hne : ¬ y = 0) (k : ab_WA G M X (pc + 1) l (.int (x - x / y * y) :: st) h) : ab_WA G M X pc l (.int y :: .int x :: st) h := by
  obtain ⟨p, e, R, s, m, args, below, meth, c, Q, h0⟩ := X
  obtain ⟨hx, hb, hml, hr, hlk, hown, hts, hal, hsz, hkp, hnm, hrf, hrl, hG⟩ := hX
  refine ⟨k.1, k.2.1, fun ls H locs g1 g2 hl hR hS => ?_⟩
  exact lv_irem hx hb hm hne (k.2.2 ls H locs g1 g2 hl hR hS)
theorem ab_ladd {G : ab_G} {M : ab_M} {X : ab_X} {pc : Nat} {l : List (Nat × Value)} {st : List Value} {h : List ab_E} (hX : ab_Good G M X) {x y : Int64} (hm : decode M.2.1 pc = .ok (.ladd, 1)) (k : ab_WA G M X (pc + 1) l (.long (x + y) :: st) h) : ab_WA G M X pc l (.long y :: .long x :: st) h := by
  obtain ⟨p, e, R, s, m, args, below, meth, c, Q, h0⟩ := X
  obtain ⟨hx, hb, hml, hr, hlk, hown, hts, hal, hsz, hkp, hnm, hrf, hrl, hG⟩ := hX
  refine ⟨k.1, k.2.1, fun ls H locs g1 g2 hl hR hS => ?_⟩
  exact lv_ladd hx hb hm (k.2.2 ls H locs g1 g2 hl hR hS)
theorem ab_lsub {G : ab_G} {M : ab_M} {X : ab_X} {pc : Nat} {l : List (Nat × Value)} {st : List Value} {h : List ab_E} (hX : ab_Good G M X) {x y : Int64} (hm : decode M.2.1 pc = .ok (.lsub, 1)) (k : ab_WA G M X (pc + 1) l (.long (x - y) :: st) h) : ab_WA G M X pc l (.long y :: .long x :: st) h := by
  obtain ⟨p, e, R, s, m, args, below, meth, c, Q, h0⟩ := X
  obtain ⟨hx, hb, hml, hr, hlk, hown, hts, hal, hsz, hkp, hnm, hrf, hrl, hG⟩ := hX
  refine ⟨k.1, k.2.1, fun ls H locs g1 g2 hl hR hS => ?_⟩
  exact lv_lsub hx hb hm (k.2.2 ls H locs g1 g2 hl hR hS)
theorem ab_lmul {G : ab_G} {M : ab_M} {X : ab_X} {pc : Nat} {l : List (Nat × Value)} {st : List Value} {h : List ab_E} (hX : ab_Good G M X) {x y : Int64} (hm : decode M.2.1 pc = .ok (.lmul, 1)) (k : ab_WA G M X (pc + 1) l (.long (x * y) :: st) h) : ab_WA G M X pc l (.long y :: .long x :: st) h := by
  obtain ⟨p, e, R, s, m, args, below, meth, c, Q, h0⟩ := X
  obtain ⟨hx, hb, hml, hr, hlk, hown, hts, hal, hsz, hkp, hnm, hrf, hrl, hG⟩ := hX
  refine ⟨k.1, k.2.1, fun ls H locs g1 g2 hl hR hS => ?_⟩
  exact lv_lmul hx hb hm (k.2.2 ls H locs g1 g2 hl hR hS)
theorem ab_land {G : ab_G} {M : ab_M} {X : ab_X} {pc : Nat} {l : List (Nat × Value)} {st : List Value} {h : List ab_E} (hX : ab_Good G M X) {x y : Int64} (hm : decode M.2.1 pc = .ok (.land, 1)) (k : ab_WA G M X (pc + 1) l (.long (x &&& y) :: st) h) : ab_WA G M X pc l (.long y :: .long x :: st) h := by
  obtain ⟨p, e, R, s, m, args, below, meth, c, Q, h0⟩ := X
  obtain ⟨hx, hb, hml, hr, hlk, hown, hts, hal, hsz, hkp, hnm, hrf, hrl, hG⟩ := hX
  refine ⟨k.1, k.2.1, fun ls H locs g1 g2 hl hR hS => ?_⟩
  exact lv_land hx hb hm (k.2.2 ls H locs g1 g2 hl hR hS)
theorem ab_lor {G : ab_G} {M : ab_M} {X : ab_X} {pc : Nat} {l : List (Nat × Value)} {st : List Value} {h : List ab_E} (hX : ab_Good G M X) {x y : Int64} (hm : decode M.2.1 pc = .ok (.lor, 1)) (k : ab_WA G M X (pc + 1) l (.long (x ||| y) :: st) h) : ab_WA G M X pc l (.long y :: .long x :: st) h := by
  obtain ⟨p, e, R, s, m, args, below, meth, c, Q, h0⟩ := X
  obtain ⟨hx, hb, hml, hr, hlk, hown, hts, hal, hsz, hkp, hnm, hrf, hrl, hG⟩ := hX
  refine ⟨k.1, k.2.1, fun ls H locs g1 g2 hl hR hS => ?_⟩
  exact lv_lor hx hb hm (k.2.2 ls H locs g1 g2 hl hR hS)
theorem ab_lxor {G : ab_G} {M : ab_M} {X : ab_X} {pc : Nat} {l : List (Nat × Value)} {st : List Value} {h : List ab_E} (hX : ab_Good G M X) {x y : Int64} (hm : decode M.2.1 pc = .ok (.lxor, 1)) (k : ab_WA G M X (pc + 1) l (.long (x ^^^ y) :: st) h) : ab_WA G M X pc l (.long y :: .long x :: st) h := by
  obtain ⟨p, e, R, s, m, args, below, meth, c, Q, h0⟩ := X
  obtain ⟨hx, hb, hml, hr, hlk, hown, hts, hal, hsz, hkp, hnm, hrf, hrl, hG⟩ := hX
  refine ⟨k.1, k.2.1, fun ls H locs g1 g2 hl hR hS => ?_⟩
  exact lv_lxor hx hb hm (k.2.2 ls H locs g1 g2 hl hR hS)
theorem ab_ldiv {G : ab_G} {M : ab_M} {X : ab_X} {pc : Nat} {l : List (Nat × Value)} {st : List Value} {h : List ab_E} (hX : ab_Good G M X) {x y : Int64} (hm : decode M.2.1 pc = .ok (.ldiv, 1)) (hne : ¬ y = 0) (k : ab_WA G M X (pc + 1) l (.long (x / y) :: st) h) : ab_WA G M X pc l (.long y :: .long x :: st) h := by
  obtain ⟨p, e, R, s, m, args, below, meth, c, Q, h0⟩ := X
  obtain ⟨hx, hb, hml, hr, hlk, hown, hts, hal, hsz, hkp, hnm, hrf, hrl, hG⟩ := hX
  refine ⟨k.1, k.2.1, fun ls H locs g1 g2 hl hR hS => ?_⟩
  exact lv_ldiv hx hb hm hne (k.2.2 ls H locs g1 g2 hl hR hS)
theorem ab_lrem {G : ab_G} {M : ab_M} {X : ab_X} {pc : Nat} {l : List (Nat × Value)} {st : List Value} {h : List ab_E} (hX : ab_Good G M X) {x y : Int64} (hm : decode M.2.1 pc = .ok (.lrem, 1)) (hne : ¬ y = 0) (k : ab_WA G M X (pc + 1) l (.long (x - x / y * y) :: st) h) : ab_WA G M X pc l (.long y :: .long x :: st) h := by
  obtain ⟨p, e, R, s, m, args, below, meth, c, Q, h0⟩ := X
  obtain ⟨hx, hb, hml, hr, hlk, hown, hts, hal, hsz, hkp, hnm, hrf, hrl, hG⟩ := hX
  refine ⟨k.1, k.2.1, fun ls H locs g1 g2 hl hR hS => ?_⟩
  exact lv_lrem hx hb hm hne (k.2.2 ls H locs g1 g2 hl hR hS)
theorem ab_lshl {G : ab_G} {M : ab_M} {X : ab_X} {pc : Nat} {l : List (Nat × Value)} {st : List Value} {h : List ab_E} (hX : ab_Good G M X) {x : Int64} {y : Int32} (hm : decode M.2.1 pc = .ok (.lshl, 1)) (k : ab_WA G M X (pc + 1) l (.long (x <<< (y.toInt64 &&& 63)) :: st) h) : ab_WA G M X pc l (.int y :: .long x :: st) h := by
  obtain ⟨p, e, R, s, m, args, below, meth, c, Q, h0⟩ := X
  obtain ⟨hx, hb, hml, hr, hlk, hown, hts, hal, hsz, hkp, hnm, hrf, hrl, hG⟩ := hX
  refine ⟨k.1, k.2.1, fun ls H locs g1 g2 hl hR hS => ?_⟩
  exact lv_lshl hx hb hm rfl (k.2.2 ls H locs g1 g2 hl hR hS)
theorem ab_lshr {G : ab_G} {M : ab_M} {X : ab_X} {pc : Nat} {l : List (Nat × Value)} {st : List Value} {h : List ab_E} (hX : ab_Good G M X) {x : Int64} {y : Int32} (hm : decode M.2.1 pc = .ok (.lshr, 1)) (k : ab_WA G M X (pc + 1) l (.long (x >>> (y.toInt64 &&& 63)) :: st) h) : ab_WA G M X pc l (.int y :: .long x :: st) h := by
  obtain ⟨p, e, R, s, m, args, below, meth, c, Q, h0⟩ := X
  obtain ⟨hx, hb, hml, hr, hlk, hown, hts, hal, hsz, hkp, hnm, hrf, hrl, hG⟩ := hX
  refine ⟨k.1, k.2.1, fun ls H locs g1 g2 hl hR hS => ?_⟩
  exact lv_lshr hx hb hm rfl (k.2.2 ls H locs g1 g2 hl hR hS)
theorem ab_lushr {G : ab_G} {M : ab_M} {X : ab_X} {pc : Nat} {l : List (Nat × Value)} {st : List Value} {h : List ab_E} (hX : ab_Good G M X) {x : Int64} {y : Int32} (hm : decode M.2.1 pc = .ok (.lushr, 1)) (k : ab_WA G M X (pc + 1) l (.long (x.toUInt64 >>> (y.toInt64.toUInt64 &&& Int64.toUInt64 63)).toInt64 :: st) h) : ab_WA G M X pc l (.int y :: .long x :: st) h := by
  obtain ⟨p, e, R, s, m, args, below, meth, c, Q, h0⟩ := X
  obtain ⟨hx, hb, hml, hr, hlk, hown, hts, hal, hsz, hkp, hnm, hrf, hrl, hG⟩ := hX
  refine ⟨k.1, k.2.1, fun ls H locs g1 g2 hl hR hS => ?_⟩
  exact lv_lushr hx hb hm rfl (k.2.2 ls H locs g1 g2 hl hR hS)
theorem ab_lcmp {G : ab_G} {M : ab_M} {X : ab_X} {pc : Nat} {l : List (Nat × Value)} {st : List Value} {h : List ab_E} (hX : ab_Good G M X) {x y : Int64} (hm : decode M.2.1 pc = .ok (.lcmp, 1)) (k : ab_WA G M X (pc + 1) l (.int (lg_cmp x y) :: st) h) : ab_WA G M X pc l (.long y :: .long x :: st) h := by
  obtain ⟨p, e, R, s, m, args, below, meth, c, Q, h0⟩ := X
  obtain ⟨hx, hb, hml, hr, hlk, hown, hts, hal, hsz, hkp, hnm, hrf, hrl, hG⟩ := hX
  refine ⟨k.1, k.2.1, fun ls H locs g1 g2 hl hR hS => ?_⟩
  exact W.lcmp hx hb hm (k.2.2 ls H locs g1 g2 hl hR hS)
theorem ab_i2l {G : ab_G} {M : ab_M} {X : ab_X} {pc : Nat} {l : List (Nat × Value)} {st : List Value} {h : List ab_E} (hX : ab_Good G M X) {x : Int32} (hm : decode M.2.1 pc = .ok (.i2l, 1)) (k : ab_WA G M X (pc + 1) l (.long x.toInt64 :: st) h) : ab_WA G M X pc l (.int x :: st) h := by
  obtain ⟨p, e, R, s, m, args, below, meth, c, Q, h0⟩ := X
  obtain ⟨hx, hb, hml, hr, hlk, hown, hts, hal, hsz, hkp, hnm, hrf, hrl, hG⟩ := hX
  refine ⟨k.1, k.2.1, fun ls H locs g1 g2 hl hR hS => ?_⟩
  exact lv_i2l hx hb hm rfl (k.2.2 ls H locs g1 g2 hl hR hS)
theorem ab_l2i {G : ab_G} {M : ab_M} {X : ab_X} {pc : Nat} {l : List (Nat × Value)} {st : List Value} {h : List ab_E} (hX : ab_Good G M X) {x : Int64} (hm : decode M.2.1 pc = .ok (.l2i, 1)) (k : ab_WA G M X (pc + 1) l (.int x.toInt32 :: st) h) : ab_WA G M X pc l (.long x :: st) h := by
  obtain ⟨p, e, R, s, m, args, below, meth, c, Q, h0⟩ := X
  obtain ⟨hx, hb, hml, hr, hlk, hown, hts, hal, hsz, hkp, hnm, hrf, hrl, hG⟩ := hX
  refine ⟨k.1, k.2.1, fun ls H locs g1 g2 hl hR hS => ?_⟩
  exact lv_l2i hx hb hm rfl (k.2.2 ls H locs g1 g2 hl hR hS)
theorem ab_i2b {G : ab_G} {M : ab_M} {X : ab_X} {pc : Nat} {l : List (Nat × Value)} {st : List Value} {h : List ab_E} (hX : ab_Good G M X) {x : Int32} (hm : decode M.2.1 pc = .ok (.i2b, 1)) (k : ab_WA G M X (pc + 1) l (.int x.toInt8.toInt32 :: st) h) : ab_WA G M X pc l (.int x :: st) h := by
  obtain ⟨p, e, R, s, m, args, below, meth, c, Q, h0⟩ := X
  obtain ⟨hx, hb, hml, hr, hlk, hown, hts, hal, hsz, hkp, hnm, hrf, hrl, hG⟩ := hX
  refine ⟨k.1, k.2.1, fun ls H locs g1 g2 hl hR hS => ?_⟩
  exact lv_i2b hx hb hm rfl (k.2.2 ls H locs g1 g2 hl hR hS)
theorem ab_i2s {G : ab_G} {M : ab_M} {X : ab_X} {pc : Nat} {l : List (Nat × Value)} {st : List Value} {h : List ab_E} (hX : ab_Good G M X) {x : Int32} (hm : decode M.2.1 pc = .ok (.i2s, 1)) (k : ab_WA G M X (pc + 1) l (.int x.toInt16.toInt32 :: st) h) : ab_WA G M X pc l (.int x :: st) h := by
  obtain ⟨p, e, R, s, m, args, below, meth, c, Q, h0⟩ := X
  obtain ⟨hx, hb, hml, hr, hlk, hown, hts, hal, hsz, hkp, hnm, hrf, hrl, hG⟩ := hX
  refine ⟨k.1, k.2.1, fun ls H locs g1 g2 hl hR hS => ?_⟩
  exact lv_i2s hx hb hm rfl (k.2.2 ls H locs g1 g2 hl hR hS)
theorem ab_dup {G : ab_G} {M : ab_M} {X : ab_X} {pc : Nat} {l : List (Nat × Value)} {st : List Value} {h : List ab_E} (hX : ab_Good G M X) {v : Value} (hm : decode M.2.1 pc = .ok (.dup, 1)) (hv : v.category = 1) (k : ab_WA G M X (pc + 1) l (v :: v :: st) h) : ab_WA G M X pc l (v :: st) h := by
  obtain ⟨p, e, R, s, m, args, below, meth, c, Q, h0⟩ := X
  obtain ⟨hx, hb, hml, hr, hlk, hown, hts, hal, hsz, hkp, hnm, hrf, hrl, hG⟩ := hX
  refine ⟨k.1, k.2.1, fun ls H locs g1 g2 hl hR hS => ?_⟩
  exact lv_dup hx hb hm ((ab_ren_cat G v).trans hv) (k.2.2 ls H locs g1 g2 hl hR hS)
theorem ab_dup_x1 {G : ab_G} {M : ab_M} {X : ab_X} {pc : Nat} {l : List (Nat × Value)} {st : List Value} {h : List ab_E} (hX : ab_Good G M X) {v w : Value} (hm : decode M.2.1 pc = .ok (.dup_x1, 1)) (hv : v.category = 1) (hw : w.category = 1) (k : ab_WA G M X (pc + 1) l (v :: w :: v :: st) h) : ab_WA G M X pc l (v :: w :: st) h := by
  obtain ⟨p, e, R, s, m, args, below, meth, c, Q, h0⟩ := X
  obtain ⟨hx, hb, hml, hr, hlk, hown, hts, hal, hsz, hkp, hnm, hrf, hrl, hG⟩ := hX
  refine ⟨k.1, k.2.1, fun ls H locs g1 g2 hl hR hS => ?_⟩
  exact lv_dup_x1 hx hb hm ((ab_ren_cat G v).trans hv) ((ab_ren_cat G w).trans hw) (k.2.2 ls H locs g1 g2 hl hR hS)
theorem ab_pop {G : ab_G} {M : ab_M} {X : ab_X} {pc : Nat} {l : List (Nat × Value)} {st : List Value} {h : List ab_E} (hX : ab_Good G M X) {v : Value} (hm : decode M.2.1 pc = .ok (.pop, 1)) (hv : v.category = 1) (k : ab_WA G M X (pc + 1) l st h) : ab_WA G M X pc l (v :: st) h := by
  obtain ⟨p, e, R, s, m, args, below, meth, c, Q, h0⟩ := X
  obtain ⟨hx, hb, hml, hr, hlk, hown, hts, hal, hsz, hkp, hnm, hrf, hrl, hG⟩ := hX
  refine ⟨k.1, k.2.1, fun ls H locs g1 g2 hl hR hS => ?_⟩
  exact lv_pop hx hb hm ((ab_ren_cat G v).trans hv) (k.2.2 ls H locs g1 g2 hl hR hS)
theorem ab_goto {G : ab_G} {M : ab_M} {X : ab_X} {pc : Nat} {l : List (Nat × Value)} {st : List Value} {h : List ab_E} (hX : ab_Good G M X) {off : Int} {tgt : Nat} (hm : decode M.2.1 pc = .ok (.goto off, 3)) (ht : (pc : Int) + off = (tgt : Int)) (k : ab_WA G M X tgt l st h) : ab_WA G M X pc l st h := by
  obtain ⟨p, e, R, s, m, args, below, meth, c, Q, h0⟩ := X
  obtain ⟨hx, hb, hml, hr, hlk, hown, hts, hal, hsz, hkp, hnm, hrf, hrl, hG⟩ := hX
  refine ⟨k.1, k.2.1, fun ls H locs g1 g2 hl hR hS => ?_⟩
  exact lv_goto hx hb hm ht (k.2.2 ls H locs g1 g2 hl hR hS)
theorem ab_ifnonnull {G : ab_G} {M : ab_M} {X : ab_X} {pc : Nat} {l : List (Nat × Value)} {st : List Value} {h : List ab_E} (hX : ab_Good G M X) {x : Nat} {off : Int} {tgt : Nat} (hm : decode M.2.1 pc = .ok (.ifnonnull off, 3)) (ht : (pc : Int) + off = (tgt : Int)) (k : ab_WA G M X tgt l st h) : ab_WA G M X pc l (.ref x :: st) h := by
  obtain ⟨p, e, R, s, m, args, below, meth, c, Q, h0⟩ := X
  obtain ⟨hx, hb, hml, hr, hlk, hown, hts, hal, hsz, hkp, hnm, hrf, hrl, hG⟩ := hX
  refine ⟨k.1, k.2.1, fun ls H locs g1 g2 hl hR hS => ?_⟩
  exact lv_ifnonnull hx hb hm ht (k.2.2 ls H locs g1 g2 hl hR hS)
theorem ab_ifnull {G : ab_G} {M : ab_M} {X : ab_X} {pc : Nat} {l : List (Nat × Value)} {st : List Value} {h : List ab_E} (hX : ab_Good G M X) {x : Nat} {off : Int} (hm : decode M.2.1 pc = .ok (.ifnull off, 3)) (k : ab_WA G M X (pc + 3) l st h) : ab_WA G M X pc l (.ref x :: st) h := by
  obtain ⟨p, e, R, s, m, args, below, meth, c, Q, h0⟩ := X
  obtain ⟨hx, hb, hml, hr, hlk, hown, hts, hal, hsz, hkp, hnm, hrf, hrl, hG⟩ := hX
  refine ⟨k.1, k.2.1, fun ls H locs g1 g2 hl hR hS => ?_⟩
  exact lv_ifnull hx hb hm (k.2.2 ls H locs g1 g2 hl hR hS)
theorem ab_ifnullN {G : ab_G} {M : ab_M} {X : ab_X} {pc : Nat} {l : List (Nat × Value)} {st : List Value} {h : List ab_E} (hX : ab_Good G M X) {off : Int} {tgt : Nat} (hm : decode M.2.1 pc = .ok (.ifnull off, 3)) (ht : (pc : Int) + off = (tgt : Int)) (k : ab_WA G M X tgt l st h) : ab_WA G M X pc l (.null :: st) h := by
  obtain ⟨p, e, R, s, m, args, below, meth, c, Q, h0⟩ := X
  obtain ⟨hx, hb, hml, hr, hlk, hown, hts, hal, hsz, hkp, hnm, hrf, hrl, hG⟩ := hX
  refine ⟨k.1, k.2.1, fun ls H locs g1 g2 hl hR hS => ?_⟩
  exact lv_ifnullN hx hb hm ht (k.2.2 ls H locs g1 g2 hl hR hS)
theorem ab_ifnonnullN {G : ab_G} {M : ab_M} {X : ab_X} {pc : Nat} {l : List (Nat × Value)} {st : List Value} {h : List ab_E} (hX : ab_Good G M X) {off : Int} (hm : decode M.2.1 pc = .ok (.ifnonnull off, 3)) (k : ab_WA G M X (pc + 3) l st h) : ab_WA G M X pc l (.null :: st) h := by
  obtain ⟨p, e, R, s, m, args, below, meth, c, Q, h0⟩ := X
  obtain ⟨hx, hb, hml, hr, hlk, hown, hts, hal, hsz, hkp, hnm, hrf, hrl, hG⟩ := hX
  refine ⟨k.1, k.2.1, fun ls H locs g1 g2 hl hR hS => ?_⟩
  exact lv_ifnonnullN hx hb hm (k.2.2 ls H locs g1 g2 hl hR hS)
theorem ab_castN {G : ab_G} {M : ab_M} {X : ab_X} {pc : Nat} {l : List (Nat × Value)} {st : List Value} {h : List ab_E} (hX : ab_Good G M X) {i : Nat} (hm : decode M.2.1 pc = .ok (.checkcast i, 3)) (k : ab_WA G M X (pc + 3) l (.null :: st) h) : ab_WA G M X pc l (.null :: st) h := by
  obtain ⟨p, e, R, s, m, args, below, meth, c, Q, h0⟩ := X
  obtain ⟨hx, hb, hml, hr, hlk, hown, hts, hal, hsz, hkp, hnm, hrf, hrl, hG⟩ := hX
  refine ⟨k.1, k.2.1, fun ls H locs g1 g2 hl hR hS => ?_⟩
  exact lv_castN hx hb hm (k.2.2 ls H locs g1 g2 hl hR hS)
theorem ab_ifne {G : ab_G} {M : ab_M} {X : ab_X} {pc : Nat} {l : List (Nat × Value)} {st : List Value} {h : List ab_E} (hX : ab_Good G M X) {x : Int32} {off : Int} {tgt : Nat} (hm : decode M.2.1 pc = .ok (.ifCond .ne off, 3)) (ht : (pc : Int) + off = (tgt : Int)) (kt : ¬ (x = 0) → ab_WA G M X tgt l st h) (kf : (x = 0) → ab_WA G M X (pc + 3) l st h) : ab_WA G M X pc l (.int x :: st) h := by
  obtain ⟨p, e, R, s, m, args, below, meth, c, Q, h0⟩ := X
  obtain ⟨hx, hb, hml, hr, hlk, hown, hts, hal, hsz, hkp, hnm, hrf, hrl, hG⟩ := hX
  by_cases hc : (x = 0)
  · have k := kf hc
    exact ⟨k.1, k.2.1, fun ls H locs g1 g2 hl hR hS => lv_if_ne hx hb hm ht (fun n => absurd hc n) (fun _ => k.2.2 ls H locs g1 g2 hl hR hS)⟩
  · have k := kt hc
    exact ⟨k.1, k.2.1, fun ls H locs g1 g2 hl hR hS => lv_if_ne hx hb hm ht (fun _ => k.2.2 ls H locs g1 g2 hl hR hS) (fun n => absurd n hc)⟩
theorem ab_icmpne {G : ab_G} {M : ab_M} {X : ab_X} {pc : Nat} {l : List (Nat × Value)} {st : List Value} {h : List ab_E} (hX : ab_Good G M X) {x y : Int32} {off : Int} {tgt : Nat} (hm : decode M.2.1 pc = .ok (.if_icmp .ne off, 3)) (ht : (pc : Int) + off = (tgt : Int)) (kt : ¬ (x = y) → ab_WA G M X tgt l st h) (kf : (x = y) → ab_WA G M X (pc + 3) l st h) : ab_WA G M X pc l (.int y :: .int x :: st) h := by
  obtain ⟨p, e, R, s, m, args, below, meth, c, Q, h0⟩ := X
  obtain ⟨hx, hb, hml, hr, hlk, hown, hts, hal, hsz, hkp, hnm, hrf, hrl, hG⟩ := hX
  by_cases hc : (x = y)
  · have k := kf hc
    exact ⟨k.1, k.2.1, fun ls H locs g1 g2 hl hR hS => lv_icmp_ne hx hb hm ht (fun n => absurd hc n) (fun _ => k.2.2 ls H locs g1 g2 hl hR hS)⟩
  · have k := kt hc
    exact ⟨k.1, k.2.1, fun ls H locs g1 g2 hl hR hS => lv_icmp_ne hx hb hm ht (fun _ => k.2.2 ls H locs g1 g2 hl hR hS) (fun n => absurd n hc)⟩
theorem ab_ifeq {G : ab_G} {M : ab_M} {X : ab_X} {pc : Nat} {l : List (Nat × Value)} {st : List Value} {h : List ab_E} (hX : ab_Good G M X) {x : Int32} {off : Int} {tgt : Nat} (hm : decode M.2.1 pc = .ok (.ifCond .eq off, 3)) (ht : (pc : Int) + off = (tgt : Int)) (kt : (x = 0) → ab_WA G M X tgt l st h) (kf : ¬ (x = 0) → ab_WA G M X (pc + 3) l st h) : ab_WA G M X pc l (.int x :: st) h := by
  obtain ⟨p, e, R, s, m, args, below, meth, c, Q, h0⟩ := X
  obtain ⟨hx, hb, hml, hr, hlk, hown, hts, hal, hsz, hkp, hnm, hrf, hrl, hG⟩ := hX
  by_cases hc : (x = 0)
  · have k := kt hc
    exact ⟨k.1, k.2.1, fun ls H locs g1 g2 hl hR hS => lv_if_eq hx hb hm ht (fun _ => k.2.2 ls H locs g1 g2 hl hR hS) (fun n => absurd hc n)⟩
  · have k := kf hc
    exact ⟨k.1, k.2.1, fun ls H locs g1 g2 hl hR hS => lv_if_eq hx hb hm ht (fun n => absurd n hc) (fun _ => k.2.2 ls H locs g1 g2 hl hR hS)⟩
theorem ab_icmpeq {G : ab_G} {M : ab_M} {X : ab_X} {pc : Nat} {l : List (Nat × Value)} {st : List Value} {h : List ab_E} (hX : ab_Good G M X) {x y : Int32} {off : Int} {tgt : Nat} (hm : decode M.2.1 pc = .ok (.if_icmp .eq off, 3)) (ht : (pc : Int) + off = (tgt : Int)) (kt : (x = y) → ab_WA G M X tgt l st h) (kf : ¬ (x = y) → ab_WA G M X (pc + 3) l st h) : ab_WA G M X pc l (.int y :: .int x :: st) h := by
  obtain ⟨p, e, R, s, m, args, below, meth, c, Q, h0⟩ := X
  obtain ⟨hx, hb, hml, hr, hlk, hown, hts, hal, hsz, hkp, hnm, hrf, hrl, hG⟩ := hX
  by_cases hc : (x = y)
  · have k := kt hc
    exact ⟨k.1, k.2.1, fun ls H locs g1 g2 hl hR hS => lv_icmp_eq hx hb hm ht (fun _ => k.2.2 ls H locs g1 g2 hl hR hS) (fun n => absurd hc n)⟩
  · have k := kf hc
    exact ⟨k.1, k.2.1, fun ls H locs g1 g2 hl hR hS => lv_icmp_eq hx hb hm ht (fun n => absurd n hc) (fun _ => k.2.2 ls H locs g1 g2 hl hR hS)⟩
theorem ab_iflt {G : ab_G} {M : ab_M} {X : ab_X} {pc : Nat} {l : List (Nat × Value)} {st : List Value} {h : List ab_E} (hX : ab_Good G M X) {x : Int32} {off : Int} {tgt : Nat} (hm : decode M.2.1 pc = .ok (.ifCond .lt off, 3)) (ht : (pc : Int) + off = (tgt : Int)) (kt : (x < 0) → ab_WA G M X tgt l st h) (kf : ¬ (x < 0) → ab_WA G M X (pc + 3) l st h) : ab_WA G M X pc l (.int x :: st) h := by
  obtain ⟨p, e, R, s, m, args, below, meth, c, Q, h0⟩ := X
  obtain ⟨hx, hb, hml, hr, hlk, hown, hts, hal, hsz, hkp, hnm, hrf, hrl, hG⟩ := hX
  by_cases hc : (x < 0)
  · have k := kt hc
    exact ⟨k.1, k.2.1, fun ls H locs g1 g2 hl hR hS => lv_if_lt hx hb hm ht (fun _ => k.2.2 ls H locs g1 g2 hl hR hS) (fun n => absurd hc n)⟩
  · have k := kf hc
    exact ⟨k.1, k.2.1, fun ls H locs g1 g2 hl hR hS => lv_if_lt hx hb hm ht (fun n => absurd n hc) (fun _ => k.2.2 ls H locs g1 g2 hl hR hS)⟩
theorem ab_icmplt {G : ab_G} {M : ab_M} {X : ab_X} {pc : Nat} {l : List (Nat × Value)} {st : List Value} {h : List ab_E} (hX : ab_Good G M X) {x y : Int32} {off : Int} {tgt : Nat} (hm : decode M.2.1 pc = .ok (.if_icmp .lt off, 3)) (ht : (pc : Int) + off = (tgt : Int)) (kt : (x < y) → ab_WA G M X tgt l st h) (kf : ¬ (x < y) → ab_WA G M X (pc + 3) l st h) : ab_WA G M X pc l (.int y :: .int x :: st) h := by
  obtain ⟨p, e, R, s, m, args, below, meth, c, Q, h0⟩ := X
  obtain ⟨hx, hb, hml, hr, hlk, hown, hts, hal, hsz, hkp, hnm, hrf, hrl, hG⟩ := hX
  by_cases hc : (x < y)
  · have k := kt hc
    exact ⟨k.1, k.2.1, fun ls H locs g1 g2 hl hR hS => lv_icmp_lt hx hb hm ht (fun _ => k.2.2 ls H locs g1 g2 hl hR hS) (fun n => absurd hc n)⟩
  · have k := kf hc
    exact ⟨k.1, k.2.1, fun ls H locs g1 g2 hl hR hS => lv_icmp_lt hx hb hm ht (fun n => absurd n hc) (fun _ => k.2.2 ls H locs g1 g2 hl hR hS)⟩
theorem ab_ifge {G : ab_G} {M : ab_M} {X : ab_X} {pc : Nat} {l : List (Nat × Value)} {st : List Value} {h : List ab_E} (hX : ab_Good G M X) {x : Int32} {off : Int} {tgt : Nat} (hm : decode M.2.1 pc = .ok (.ifCond .ge off, 3)) (ht : (pc : Int) + off = (tgt : Int)) (kt : (0 ≤ x) → ab_WA G M X tgt l st h) (kf : ¬ (0 ≤ x) → ab_WA G M X (pc + 3) l st h) : ab_WA G M X pc l (.int x :: st) h := by
  obtain ⟨p, e, R, s, m, args, below, meth, c, Q, h0⟩ := X
  obtain ⟨hx, hb, hml, hr, hlk, hown, hts, hal, hsz, hkp, hnm, hrf, hrl, hG⟩ := hX
  by_cases hc : (0 ≤ x)
  · have k := kt hc
    exact ⟨k.1, k.2.1, fun ls H locs g1 g2 hl hR hS => lv_if_ge hx hb hm ht (fun _ => k.2.2 ls H locs g1 g2 hl hR hS) (fun n => absurd hc n)⟩
  · have k := kf hc
    exact ⟨k.1, k.2.1, fun ls H locs g1 g2 hl hR hS => lv_if_ge hx hb hm ht (fun n => absurd n hc) (fun _ => k.2.2 ls H locs g1 g2 hl hR hS)⟩
theorem ab_icmpge {G : ab_G} {M : ab_M} {X : ab_X} {pc : Nat} {l : List (Nat × Value)} {st : List Value} {h : List ab_E} (hX : ab_Good G M X) {x y : Int32} {off : Int} {tgt : Nat} (hm : decode M.2.1 pc = .ok (.if_icmp .ge off, 3)) (ht : (pc : Int) + off = (tgt : Int)) (kt : (y ≤ x) → ab_WA G M X tgt l st h) (kf : ¬ (y ≤ x) → ab_WA G M X (pc + 3) l st h) : ab_WA G M X pc l (.int y :: .int x :: st) h := by
  obtain ⟨p, e, R, s, m, args, below, meth, c, Q, h0⟩ := X
  obtain ⟨hx, hb, hml, hr, hlk, hown, hts, hal, hsz, hkp, hnm, hrf, hrl, hG⟩ := hX
  by_cases hc : (y ≤ x)
  · have k := kt hc
    exact ⟨k.1, k.2.1, fun ls H locs g1 g2 hl hR hS => lv_icmp_ge hx hb hm ht (fun _ => k.2.2 ls H locs g1 g2 hl hR hS) (fun n => absurd hc n)⟩
  · have k := kf hc
    exact ⟨k.1, k.2.1, fun ls H locs g1 g2 hl hR hS => lv_icmp_ge hx hb hm ht (fun n => absurd n hc) (fun _ => k.2.2 ls H locs g1 g2 hl hR hS)⟩
theorem ab_ifgt {G : ab_G} {M : ab_M} {X : ab_X} {pc : Nat} {l : List (Nat × Value)} {st : List Value} {h : List ab_E} (hX : ab_Good G M X) {x : Int32} {off : Int} {tgt : Nat} (hm : decode M.2.1 pc = .ok (.ifCond .gt off, 3)) (ht : (pc : Int) + off = (tgt : Int)) (kt : (0 < x) → ab_WA G M X tgt l st h) (kf : ¬ (0 < x) → ab_WA G M X (pc + 3) l st h) : ab_WA G M X pc l (.int x :: st) h := by
  obtain ⟨p, e, R, s, m, args, below, meth, c, Q, h0⟩ := X
  obtain ⟨hx, hb, hml, hr, hlk, hown, hts, hal, hsz, hkp, hnm, hrf, hrl, hG⟩ := hX
  by_cases hc : (0 < x)
  · have k := kt hc
    exact ⟨k.1, k.2.1, fun ls H locs g1 g2 hl hR hS => lv_if_gt hx hb hm ht (fun _ => k.2.2 ls H locs g1 g2 hl hR hS) (fun n => absurd hc n)⟩
  · have k := kf hc
    exact ⟨k.1, k.2.1, fun ls H locs g1 g2 hl hR hS => lv_if_gt hx hb hm ht (fun n => absurd n hc) (fun _ => k.2.2 ls H locs g1 g2 hl hR hS)⟩
theorem ab_icmpgt {G : ab_G} {M : ab_M} {X : ab_X} {pc : Nat} {l : List (Nat × Value)} {st : List Value} {h : List ab_E} (hX : ab_Good G M X) {x y : Int32} {off : Int} {tgt : Nat} (hm : decode M.2.1 pc = .ok (.if_icmp .gt off, 3)) (ht : (pc : Int) + off = (tgt : Int)) (kt : (y < x) → ab_WA G M X tgt l st h) (kf : ¬ (y < x) → ab_WA G M X (pc + 3) l st h) : ab_WA G M X pc l (.int y :: .int x :: st) h := by
  obtain ⟨p, e, R, s, m, args, below, meth, c, Q, h0⟩ := X
  obtain ⟨hx, hb, hml, hr, hlk, hown, hts, hal, hsz, hkp, hnm, hrf, hrl, hG⟩ := hX
  by_cases hc : (y < x)
  · have k := kt hc
    exact ⟨k.1, k.2.1, fun ls H locs g1 g2 hl hR hS => lv_icmp_gt hx hb hm ht (fun _ => k.2.2 ls H locs g1 g2 hl hR hS) (fun n => absurd hc n)⟩
  · have k := kf hc
    exact ⟨k.1, k.2.1, fun ls H locs g1 g2 hl hR hS => lv_icmp_gt hx hb hm ht (fun n => absurd n hc) (fun _ => k.2.2 ls H locs g1 g2 hl hR hS)⟩
theorem ab_ifle {G : ab_G} {M : ab_M} {X : ab_X} {pc : Nat} {l : List (Nat × Value)} {st : List Value} {h : List ab_E} (hX : ab_Good G M X) {x : Int32} {off : Int} {tgt : Nat} (hm : decode M.2.1 pc = .ok (.ifCond .le off, 3)) (ht : (pc : Int) + off = (tgt : Int)) (kt : (x ≤ 0) → ab_WA G M X tgt l st h) (kf : ¬ (x ≤ 0) → ab_WA G M X (pc + 3) l st h) : ab_WA G M X pc l (.int x :: st) h := by
  obtain ⟨p, e, R, s, m, args, below, meth, c, Q, h0⟩ := X
  obtain ⟨hx, hb, hml, hr, hlk, hown, hts, hal, hsz, hkp, hnm, hrf, hrl, hG⟩ := hX
  by_cases hc : (x ≤ 0)
  · have k := kt hc
    exact ⟨k.1, k.2.1, fun ls H locs g1 g2 hl hR hS => lv_if_le hx hb hm ht (fun _ => k.2.2 ls H locs g1 g2 hl hR hS) (fun n => absurd hc n)⟩
  · have k := kf hc
    exact ⟨k.1, k.2.1, fun ls H locs g1 g2 hl hR hS => lv_if_le hx hb hm ht (fun n => absurd n hc) (fun _ => k.2.2 ls H locs g1 g2 hl hR hS)⟩
theorem ab_icmple {G : ab_G} {M : ab_M} {X : ab_X} {pc : Nat} {l : List (Nat × Value)} {st : List Value} {h : List ab_E} (hX : ab_Good G M X) {x y : Int32} {off : Int} {tgt : Nat} (hm : decode M.2.1 pc = .ok (.if_icmp .le off, 3)) (ht : (pc : Int) + off = (tgt : Int)) (kt : (x ≤ y) → ab_WA G M X tgt l st h) (kf : ¬ (x ≤ y) → ab_WA G M X (pc + 3) l st h) : ab_WA G M X pc l (.int y :: .int x :: st) h := by
  obtain ⟨p, e, R, s, m, args, below, meth, c, Q, h0⟩ := X
  obtain ⟨hx, hb, hml, hr, hlk, hown, hts, hal, hsz, hkp, hnm, hrf, hrl, hG⟩ := hX
  by_cases hc : (x ≤ y)
  · have k := kt hc
    exact ⟨k.1, k.2.1, fun ls H locs g1 g2 hl hR hS => lv_icmp_le hx hb hm ht (fun _ => k.2.2 ls H locs g1 g2 hl hR hS) (fun n => absurd hc n)⟩
  · have k := kf hc
    exact ⟨k.1, k.2.1, fun ls H locs g1 g2 hl hR hS => lv_icmp_le hx hb hm ht (fun n => absurd n hc) (fun _ => k.2.2 ls H locs g1 g2 hl hR hS)⟩
theorem ab_tsIn {G : ab_G} {M : ab_M} {X : ab_X} {pc : Nat} {l : List (Nat × Value)} {st : List Value} {h : List ab_E} (hX : ab_Good G M X) {dflt lo hi off : Int} {offs : Array Int} {len : Nat} {x : Int32} {tgt : Nat} (hm : decode M.2.1 pc = .ok (.tableswitch dflt lo hi offs, len)) (h1 : ¬ x.toInt < lo) (h2 : ¬ hi < x.toInt) (ho : offs[(x.toInt - lo).toNat]? = some off) (ht : (pc : Int) + off = (tgt : Int)) (k : ab_WA G M X tgt l st h) : ab_WA G M X pc l (.int x :: st) h := by
  obtain ⟨p, e, R, s, m, args, below, meth, c, Q, h0⟩ := X
  obtain ⟨hx, hb, hml, hr, hlk, hown, hts, hal, hsz, hkp, hnm, hrf, hrl, hG⟩ := hX
  refine ⟨k.1, k.2.1, fun ls H locs g1 g2 hl hR hS => ?_⟩
  exact lv_tableIn hx hb hm h1 h2 ho ht (k.2.2 ls H locs g1 g2 hl hR hS)
theorem ab_tsOut {G : ab_G} {M : ab_M} {X : ab_X} {pc : Nat} {l : List (Nat × Value)} {st : List Value} {h : List ab_E} (hX : ab_Good G M X) {dflt lo hi : Int} {offs : Array Int} {len : Nat} {x : Int32} {tgt : Nat} (hm : decode M.2.1 pc = .ok (.tableswitch dflt lo hi offs, len)) (h1 : x.toInt < lo ∨ hi < x.toInt) (ht : (pc : Int) + dflt = (tgt : Int)) (k : ab_WA G M X tgt l st h) : ab_WA G M X pc l (.int x :: st) h := by
  obtain ⟨p, e, R, s, m, args, below, meth, c, Q, h0⟩ := X
  obtain ⟨hx, hb, hml, hr, hlk, hown, hts, hal, hsz, hkp, hnm, hrf, hrl, hG⟩ := hX
  refine ⟨k.1, k.2.1, fun ls H locs g1 g2 hl hR hS => ?_⟩
  exact lv_tableOut hx hb hm h1 ht (k.2.2 ls H locs g1 g2 hl hR hS)
theorem ab_ls {G : ab_G} {M : ab_M} {X : ab_X} {pc : Nat} {l : List (Nat × Value)} {st : List Value} {h : List ab_E} (hX : ab_Good G M X) {dflt off : Int} {ps : Array (Int × Int)} {len : Nat} {x : Int32} {tgt : Nat} (hm : decode M.2.1 pc = .ok (.lookupswitch dflt ps, len)) (hp : (ps.toList.zip (ps.toList.drop 1)).all (fun (a, next) => a.1 < next.1) = true) (ho : Op.lookupswitch.offset ps.toList dflt x.toInt = off) (ht : (pc : Int) + off = (tgt : Int)) (k : ab_WA G M X tgt l st h) : ab_WA G M X pc l (.int x :: st) h := by
  obtain ⟨p, e, R, s, m, args, below, meth, c, Q, h0⟩ := X
  obtain ⟨hx, hb, hml, hr, hlk, hown, hts, hal, hsz, hkp, hnm, hrf, hrl, hG⟩ := hX
  refine ⟨k.1, k.2.1, fun ls H locs g1 g2 hl hR hS => ?_⟩
  exact lv_lookup hx hb hm hp ho ht (k.2.2 ls H locs g1 g2 hl hR hS)
theorem ab_acmpne {G : ab_G} {M : ab_M} {X : ab_X} {pc : Nat} {l : List (Nat × Value)} {st : List Value} {h : List ab_E} (hX : ab_Good G M X) {v w : Value} {a b : Nat} {off : Int} {tgt : Nat} (hm : decode M.2.1 pc = .ok (.if_acmp .ne off, 3)) (ht : (pc : Int) + off = (tgt : Int)) (hv : ab_ren G v = .ref a) (hw : ab_ren G w = .ref b) (kt : ¬ a = b → ab_WA G M X tgt l st h) (kf : a = b → ab_WA G M X (pc + 3) l st h) : ab_WA G M X pc l (w :: v :: st) h := by
  obtain ⟨p, e, R, s, m, args, below, meth, c, Q, h0⟩ := X
  obtain ⟨hx, hb, hml, hr, hlk, hown, hts, hal, hsz, hkp, hnm, hrf, hrl, hG⟩ := hX
  have e : (w :: v :: st).map (ab_ren G) = va_rf (some b) :: va_rf (some a) :: st.map (ab_ren G) := by rw [List.map_cons, List.map_cons, hv, hw]; rfl
  by_cases hc : a = b
  · have k := kf hc
    exact ⟨k.1, k.2.1, fun ls H locs g1 g2 hl hR hS => by
      rw [e]
      exact lv_acmp_ne hx hb hm ht (fun n => absurd (congrArg some hc) n) (fun _ => k.2.2 ls H locs g1 g2 hl hR hS)⟩
  · have k := kt hc
    exact ⟨k.1, k.2.1, fun ls H locs g1 g2 hl hR hS => by
      rw [e]
      exact lv_acmp_ne hx hb hm ht (fun _ => k.2.2 ls H locs g1 g2 hl hR hS) (fun n => absurd (Option.some.inj n) hc)⟩
theorem ab_ireturn {G : ab_G} {M : ab_M} {X : ab_X} {pc : Nat} {l : List (Nat × Value)} {h : List ab_E} (hX : ab_Good G M X) {v : Int32} {ty : FieldType} {r : Option Value} {h1 h2 : List ab_E} (hF : ab_Fin G M X r h1 h2) (hm : decode M.2.1 pc = .ok (.ireturn, 1)) (hret : M.2.2.2.1 = some ty) (hn : narrow ty (.int v) = .int v) (hrv : r = some (.int v)) (hh : h = h2) : ab_WA G M X pc l [.int v] h := by
  obtain ⟨p, e, R, s, m, args, below, meth, c, Q, h0⟩ := X
  obtain ⟨hx, hb, hml, hr, hlk, hown, hts, hal, hsz, hkp, hnm, hrf, hrl, hG⟩ := hX
  obtain ⟨rfl, hle, hlz, rfl, rfl⟩ := hF
  subst hh
  subst hrv
  refine ⟨by show h.length ≤ h0.length + (h.length - h0.length); omega, by show ab_sz h ≤ ab_sz h0 + (ab_sz h - ab_sz h0); omega, fun ls H locs g1 g2 hl hR hS => ?_⟩
  exact W.zret hx hb (hr.trans hret) hn (fun t ht hW => ⟨rfl, ⟨by rw [ht]; exact hR, State.WarmedH.trans hal hW⟩, hS.F ht⟩) hS.2.2 hm hlk
theorem ab_lreturn {G : ab_G} {M : ab_M} {X : ab_X} {pc : Nat} {l : List (Nat × Value)} {h : List ab_E} (hX : ab_Good G M X) {v : Int64} {r : Option Value} {h1 h2 : List ab_E} (hF : ab_Fin G M X r h1 h2) (hm : decode M.2.1 pc = .ok (.lreturn, 1)) (hret : M.2.2.2.1 = some .long) (hrv : r = some (.long v)) (hh : h = h2) : ab_WA G M X pc l [.long v] h := by
  obtain ⟨p, e, R, s, m, args, below, meth, c, Q, h0⟩ := X
  obtain ⟨hx, hb, hml, hr, hlk, hown, hts, hal, hsz, hkp, hnm, hrf, hrl, hG⟩ := hX
  obtain ⟨rfl, hle, hlz, rfl, rfl⟩ := hF
  subst hh
  subst hrv
  refine ⟨by show h.length ≤ h0.length + (h.length - h0.length); omega, by show ab_sz h ≤ ab_sz h0 + (ab_sz h - ab_sz h0); omega, fun ls H locs g1 g2 hl hR hS => ?_⟩
  exact W.lret hx hb (hr.trans hret) (fun t ht hW => ⟨rfl, ⟨by rw [ht]; exact hR, State.WarmedH.trans hal hW⟩, hS.F ht⟩) hS.2.2 hm hlk
theorem ab_vreturn {G : ab_G} {M : ab_M} {X : ab_X} {pc : Nat} {l : List (Nat × Value)} {h : List ab_E} (hX : ab_Good G M X)  {r : Option Value} {h1 h2 : List ab_E} (hF : ab_Fin G M X r h1 h2) (hm : decode M.2.1 pc = .ok (.return_, 1)) (hret : M.2.2.2.1 = none) (hrv : r = none) (hh : h = h2) : ab_WA G M X pc l [] h := by
  obtain ⟨p, e, R, s, m, args, below, meth, c, Q, h0⟩ := X
  obtain ⟨hx, hb, hml, hr, hlk, hown, hts, hal, hsz, hkp, hnm, hrf, hrl, hG⟩ := hX
  obtain ⟨rfl, hle, hlz, rfl, rfl⟩ := hF
  subst hh
  subst hrv
  refine ⟨by show h.length ≤ h0.length + (h.length - h0.length); omega, by show ab_sz h ≤ ab_sz h0 + (ab_sz h - ab_sz h0); omega, fun ls H locs g1 g2 hl hR hS => ?_⟩
  exact W.vret hx hb (hr.trans hret) (fun t ht hW => ⟨rfl, ⟨by rw [ht]; exact hR, State.WarmedH.trans hal hW⟩, hS.F ht⟩) hS.2.2 hm hlk
theorem ab_areturn {G : ab_G} {M : ab_M} {X : ab_X} {pc : Nat} {l : List (Nat × Value)} {h : List ab_E} (hX : ab_Good G M X) {v : Value} {rt : FieldType} {r : Option Value} {h1 h2 : List ab_E} (hF : ab_Fin G M X r h1 h2) (hm : decode M.2.1 pc = .ok (.areturn, 1)) (hret : M.2.2.2.1 = some rt) (hrt : (∃ n, rt = .object n) ∨ ∃ t, rt = .array t) (hv : v = .null ∨ (∃ a, v = .ref a) ∨ ∃ x, v = .float x) (hrv : r = some v) (hh : h = h2) : ab_WA G M X pc l [v] h := by
  obtain ⟨p, e, R, s, m, args, below, meth, c, Q, h0⟩ := X
  obtain ⟨hx, hb, hml, hr, hlk, hown, hts, hal, hsz, hkp, hnm, hrf, hrl, hG⟩ := hX
  obtain ⟨rfl, hle, hlz, rfl, rfl⟩ := hF
  subst hh
  subst hrv
  refine ⟨by show h.length ≤ h0.length + (h.length - h0.length); omega, by show ab_sz h ≤ ab_sz h0 + (ab_sz h - ab_sz h0); omega, fun ls H locs g1 g2 hl hR hS => ?_⟩
  exact W.aret hx hb (hr.trans hret) hrt (ab_isref G hv) (fun t ht hW => ⟨rfl, ⟨by rw [ht]; exact hR, State.WarmedH.trans hal hW⟩, hS.F ht⟩) hS.2.2 hm hlk
