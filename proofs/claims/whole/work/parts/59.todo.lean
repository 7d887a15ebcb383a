/-! owed -/
theorem eq_trial {c : CS} {D : List ab_E} {Q : QT} {nw : Nat} {s : MS} (h : RS c D Q nw s) {a : Int32} : trlR c D Q a = trM s (Q (2 * 0)).1 nw (Q (2 * 0 + 1)).1 a := sorry
theorem rs_trial {c : CS} {D : List ab_E} {Q : QT} {nw : Nat} {s : MS} (h : RS c D Q nw s) {a : Int32} : ∃ Q2 nw2, RS (trlP c D Q a).1 (trlP c D Q a).2 Q2 nw2 (trS s (Q (2 * 0)).1 nw (Q (2 * 0 + 1)).1 a) := sorry
theorem rs_rules {c : CS} {D : List ab_E} {Q : QT} {nw : Nat} {s : MS} (h : RS c D Q nw s) {a b d : Int32} : ∃ Q2 nw2, RS (rulP c D (Q (2 * 0)).1 a b d).1 (rulP c D (Q (2 * 0)).1 a b d).2 Q2 nw2 (rulesS s (Q (2 * 0)).1 a b d) := sorry
theorem rs_says {c : CS} {D : List ab_E} {Q : QT} {nw : Nat} {s : MS} (h : RS c D Q nw s) {a b d e : Int32} : ∃ Q2 nw2, RS (sayP c D (Q (2 * 0 + 1)).1 a b d e).1 (sayP c D (Q (2 * 0 + 1)).1 a b d e).2 Q2 nw2 (saysS s (Q (2 * 0 + 1)).1 a b d e) := sorry
theorem rs_unsays {c : CS} {D : List ab_E} {Q : QT} {nw : Nat} {s : MS} (h : RS c D Q nw s)  : ∃ Q2 nw2, RS (unsP c D (Q (2 * 0 + 1)).1).1 (unsP c D (Q (2 * 0 + 1)).1).2 Q2 nw2 (unsaysS s) := sorry
theorem rs_witness {c : CS} {D : List ab_E} {Q : QT} {nw : Nat} {s : MS} (h : RS c D Q nw s) {a : Int32} : ∃ Q2 nw2, RS (wtnP c a) D Q2 nw2 (witS s nw a) := sorry
theorem rs_truth {c : CS} {D : List ab_E} {Q : QT} {nw : Nat} {s : MS} (h : RS c D Q nw s) {a : Int32} : ∃ Q2 nw2, RS (trtP c a) D Q2 nw2 (truS s a) := sorry
theorem eq_seeds {c : CS} {D : List ab_E} {Q : QT} {nw : Nat} {s : MS} (h : RS c D Q nw s) {a b d : Int32} : sedC (c.1 (20 + 0)) (mbT (Q (2 * 0)).2 (Q (2 * 0)).1) nw a b d = seM s (Q (2 * 0)).1 nw a b d := sorry
theorem rs_seeds {c : CS} {D : List ab_E} {Q : QT} {nw : Nat} {s : MS} (h : RS c D Q nw s) {a b d : Int32} : ∃ Q2 nw2, RS c D Q2 nw2 (seS s (Q (2 * 0)).1 nw a b d) := sorry
theorem rs_image {c : CS} {D : List ab_E} {Q : QT} {nw : Nat} {s : MS} (h : RS c D Q nw s)  : ∃ Q2 nw2, RS (imgP c D Q).1 (imgP c D Q).2 Q2 nw2 (imS s) := sorry
theorem eq_restore {c : CS} {D : List ab_E} {Q : QT} {nw : Nat} {s : MS} (h : RS c D Q nw s)  : rstR c Q = reM s := sorry
theorem rs_restore {c : CS} {D : List ab_E} {Q : QT} {nw : Nat} {s : MS} (h : RS c D Q nw s)  : ∃ Q2 nw2, RS (rstP c D Q).1 (rstP c D Q).2 Q2 nw2 (reS s) := sorry
theorem rs_keep {c : CS} {D : List ab_E} {Q : QT} {nw : Nat} {s : MS} (h : RS c D Q nw s) {a b d e : Int32} : ∃ Q2 nw2, RS (kepP c a b d e) D Q2 nw2 (keS s a b d e) := sorry
theorem rs_row {c : CS} {D : List ab_E} {Q : QT} {nw : Nat} {s : MS} (h : RS c D Q nw s) {a b d : Int32} : ∃ Q2 nw2, RS (rowP c a b d) D Q2 nw2 (roS s a b d) := sorry
theorem rs_put {c : CS} {D : List ab_E} {Q : QT} {nw : Nat} {s : MS} (h : RS c D Q nw s) {a b d : Int32} : ∃ Q2 nw2, RS (putP c a b d) D Q2 nw2 (puS s a b d) := sorry
theorem eq_copy {c : CS} {D : List ab_E} {Q : QT} {nw : Nat} {s : MS} (h : RS c D Q nw s) {a b d e g : Int32} : cpR c a b d e g = coM s a b d e g := sorry
theorem rs_copy {c : CS} {D : List ab_E} {Q : QT} {nw : Nat} {s : MS} (h : RS c D Q nw s) {a b d e g : Int32} : ∃ Q2 nw2, RS (cpP c a b d e g) D Q2 nw2 (coS s a b d e g) := sorry
theorem rs_toss {c : CS} {D : List ab_E} {Q : QT} {nw : Nat} {s : MS} (h : RS c D Q nw s) {a : Int32} : ∃ Q2 nw2, RS c (tosD c D a) Q2 nw2 s := sorry
theorem rs_element {c : CS} {D : List ab_E} {Q : QT} {nw : Nat} {s : MS} (h : RS c D Q nw s) {f : Nat → Int64} (hD : D[0]? = some (eCell f)) {a b x : Int32} : RS c (elD c D f a b) Q nw (mu1 s 21 x) := sorry
