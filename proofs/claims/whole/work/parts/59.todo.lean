/-! owed -/
theorem eq_trial {c : CS} {D : List ab_E} {Q : QT} {nw : Nat} {s : MS} (h : RS c D Q nw s) {a : Int32} : trlR c D Q a = trM s (Q (2 * 0)).1 nw (Q (2 * 0 + 1)).1 a := sorry
theorem rs_trial {c : CS} {D : List ab_E} {Q : QT} {nw : Nat} {s : MS} (h : RS c D Q nw s) {a : Int32} : ∃ Q2 nw2, RS (trlP c D Q a).1 (trlP c D Q a).2 Q2 nw2 (trS s (Q (2 * 0)).1 nw (Q (2 * 0 + 1)).1 a) := sorry
