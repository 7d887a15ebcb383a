/-! rules and heaps that the law wants -/
theorem ab_dup2 {G : ab_G} {M : ab_M} {X : ab_X} {pc : Nat} {l : List (Nat × Value)} {st : List Value} {h : List ab_E} (hX : ab_Good G M X) {v w : Value} (hm : decode M.2.1 pc = .ok (.dup2, 1)) (hv : v.category = 1) (hw : w.category = 1) (k : ab_WA G M X (pc + 1) l (v :: w :: v :: w :: st) h) : ab_WA G M X pc l (v :: w :: st) h := by
  obtain ⟨p, e, R, s, m, args, below, meth, c, Q, h0⟩ := X
  obtain ⟨hx, hb, hml, hr, hlk, hown, hts, hal, hsz, hkp, hnm, hrf, hrl, hG⟩ := hX
  exact ⟨k.1, k.2.1, fun ls H locs g1 g2 hl hR hS => lv_dup2_11 hx hb hm ((ab_ren_cat G v).trans hv) ((ab_ren_cat G w).trans hw) (k.2.2 ls H locs g1 g2 hl hR hS)⟩
/-- the law's own row of 35 numbers -/
def bC (f : Nat → Int32) : ab_E := .inl (0, 35, .inl f)
theorem cM_b {c : CS} {f : Nat → Int32} {D : List ab_E} : (cH c [bC f] D)[42]? = some (.inl (0, 35, .inl f)) := rfl
theorem cM_s {c : CS} {f g : Nat → Int32} {D : List ab_E} : (cH c [bC f] D).set 42 (.inl (0, 35, .inl g)) = cH c [bC g] D := rfl
/-- a later object: its cells, the law's row, its lists -/
def LH (pre : List ab_E) (c : CS) (f : Nat → Int32) (D : List ab_E) : List ab_E := pre ++ (cH c [bC f] D).map (shE pre.length)
theorem LH_x {pre : List ab_E} {c : CS} {f : Nat → Int32} {D : List ab_E} : (LH pre c f D)[pre.length + 0]? = some (.inr (12, [.ref (pre.length + 1), .ref (pre.length + 2), .ref (pre.length + 3), .ref (pre.length + 7), .ref (pre.length + 11), .int (c.1 0), .ref (pre.length + 15), .ref (pre.length + 16)])) := sh_get (h := cH c [bC f] D) (k := 0) cg_x
theorem LH_b {pre : List ab_E} {c : CS} {f : Nat → Int32} {D : List ab_E} : (LH pre c f D)[pre.length + 42]? = some (.inl (0, 35, .inl f)) := sh_get (h := cH c [bC f] D) (k := 42) cM_b
section
variable {G : ab_G} {L : Nat} {xs : Nat → Int32} {Z : ab_M} {pre D E : List ab_E} {c e : CS} {f g : Nat → Int32}
theorem LC0i {r : Int32} (hG : ab_GS L xs G) (hC : ∀ G', ab_GS L xs G' → ab_CM G' Z [.ref 0] (cH c [bC f] D) (some (.int r)) (cH e [bC g] E)) : ab_CM G Z [.ref (pre.length + 0)] (LH pre c f D) (some (.int r)) (LH pre e g E) := ab_lift hG hC pre
theorem LC0l {r : Int64} (hG : ab_GS L xs G) (hC : ∀ G', ab_GS L xs G' → ab_CM G' Z [.ref 0] (cH c [bC f] D) (some (.long r)) (cH e [bC g] E)) : ab_CM G Z [.ref (pre.length + 0)] (LH pre c f D) (some (.long r)) (LH pre e g E) := ab_lift hG hC pre
theorem LC1i {r a : Int32} (hG : ab_GS L xs G) (hC : ∀ G', ab_GS L xs G' → ab_CM G' Z [.ref 0, .int a] (cH c [bC f] D) (some (.int r)) (cH e [bC g] E)) : ab_CM G Z [.ref (pre.length + 0), .int a] (LH pre c f D) (some (.int r)) (LH pre e g E) := ab_lift hG hC pre
theorem LC1l {r : Int64} {a : Int32} (hG : ab_GS L xs G) (hC : ∀ G', ab_GS L xs G' → ab_CM G' Z [.ref 0, .int a] (cH c [bC f] D) (some (.long r)) (cH e [bC g] E)) : ab_CM G Z [.ref (pre.length + 0), .int a] (LH pre c f D) (some (.long r)) (LH pre e g E) := ab_lift hG hC pre
theorem LC2i {r a b : Int32} (hG : ab_GS L xs G) (hC : ∀ G', ab_GS L xs G' → ab_CM G' Z [.ref 0, .int a, .int b] (cH c [bC f] D) (some (.int r)) (cH e [bC g] E)) : ab_CM G Z [.ref (pre.length + 0), .int a, .int b] (LH pre c f D) (some (.int r)) (LH pre e g E) := ab_lift hG hC pre
theorem LC2l {r : Int64} {a b : Int32} (hG : ab_GS L xs G) (hC : ∀ G', ab_GS L xs G' → ab_CM G' Z [.ref 0, .int a, .int b] (cH c [bC f] D) (some (.long r)) (cH e [bC g] E)) : ab_CM G Z [.ref (pre.length + 0), .int a, .int b] (LH pre c f D) (some (.long r)) (LH pre e g E) := ab_lift hG hC pre
theorem LC3i {r a b d : Int32} (hG : ab_GS L xs G) (hC : ∀ G', ab_GS L xs G' → ab_CM G' Z [.ref 0, .int a, .int b, .int d] (cH c [bC f] D) (some (.int r)) (cH e [bC g] E)) : ab_CM G Z [.ref (pre.length + 0), .int a, .int b, .int d] (LH pre c f D) (some (.int r)) (LH pre e g E) := ab_lift hG hC pre
theorem LC4i {r a b d k : Int32} (hG : ab_GS L xs G) (hC : ∀ G', ab_GS L xs G' → ab_CM G' Z [.ref 0, .int a, .int b, .int d, .int k] (cH c [bC f] D) (some (.int r)) (cH e [bC g] E)) : ab_CM G Z [.ref (pre.length + 0), .int a, .int b, .int d, .int k] (LH pre c f D) (some (.int r)) (LH pre e g E) := ab_lift hG hC pre
theorem LCw (hG : ab_GS L xs G) (hC : ∀ G', ab_GS L xs G' → ab_CM G' Z [.ref 0, .float 1, .ref 42] (cH c [bC f] D) none (cH e [bC g] E)) : ab_CM G Z [.ref (pre.length + 0), .float 1, .ref (pre.length + 42)] (LH pre c f D) none (LH pre e g E) := ab_lift hG hC pre
end
theorem LH_len {pre : List ab_E} {c : CS} {f : Nat → Int32} {D : List ab_E} : (LH pre c f D).length = pre.length + (43 + D.length) := by
  rw [LH, sh_len, cH_len]
  show pre.length + (42 + (1 + D.length)) = _
  omega
theorem LH_sz {pre : List ab_E} {c : CS} {f : Nat → Int32} {D : List ab_E} : ab_sz (LH pre c f D) = ab_sz pre + (ab_sz (cC c) + (35 + ab_sz D)) := by
  rw [LH, sh_sz]
  unfold cH ab_sz
  rw [List.map_append, List.map_append, List.sum_append, List.sum_append]
  rfl
