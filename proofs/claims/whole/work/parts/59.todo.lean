/-! owed -/
theorem eq_trial {c : CS} {D : List ab_E} {Q : QT} {nw : Nat} {s : MS} (h : RS c D Q nw s) {a : Int32} : trlR c D Q a = trM s (Q (2 * 0)).1 nw (Q (2 * 0 + 1)).1 a := sorry
theorem rs_trial {c : CS} {D : List ab_E} {Q : QT} {nw : Nat} {s : MS} (h : RS c D Q nw s) {a : Int32} : ∃ Q2 nw2, RS (trlP c D Q a).1 (trlP c D Q a).2 Q2 nw2 (trS s (Q (2 * 0)).1 nw (Q (2 * 0 + 1)).1 a) := sorry
theorem eq_rules {c : CS} {D : List ab_E} {Q : QT} {nw : Nat} {s : MS} (h : RS c D Q nw s) {a b d : Int32} : rulR c (Q (2 * 0)).1 a b d = rulesM s a b d := sorry
theorem rs_rules {c : CS} {D : List ab_E} {Q : QT} {nw : Nat} {s : MS} (h : RS c D Q nw s) {a b d : Int32} : ∃ Q2 nw2, RS (rulP c D (Q (2 * 0)).1 a b d).1 (rulP c D (Q (2 * 0)).1 a b d).2 Q2 nw2 (rulesS s (Q (2 * 0)).1 a b d) := sorry
theorem eq_says {c : CS} {D : List ab_E} {Q : QT} {nw : Nat} {s : MS} (h : RS c D Q nw s) {a b d e : Int32} : sayR c (Q (2 * 0 + 1)).1 a b d e = saysM s a b d e := sorry
theorem rs_says {c : CS} {D : List ab_E} {Q : QT} {nw : Nat} {s : MS} (h : RS c D Q nw s) {a b d e : Int32} : ∃ Q2 nw2, RS (sayP c D (Q (2 * 0 + 1)).1 a b d e).1 (sayP c D (Q (2 * 0 + 1)).1 a b d e).2 Q2 nw2 (saysS s (Q (2 * 0 + 1)).1 a b d e) := sorry
theorem eq_unsays {c : CS} {D : List ab_E} {Q : QT} {nw : Nat} {s : MS} (h : RS c D Q nw s)  : unsR (Q (2 * 0 + 1)).1 = unsaysM s := sorry
theorem rs_unsays {c : CS} {D : List ab_E} {Q : QT} {nw : Nat} {s : MS} (h : RS c D Q nw s)  : ∃ Q2 nw2, RS (unsP c D (Q (2 * 0 + 1)).1).1 (unsP c D (Q (2 * 0 + 1)).1).2 Q2 nw2 (unsaysS s) := sorry
theorem eq_witness {c : CS} {D : List ab_E} {Q : QT} {nw : Nat} {s : MS} (h : RS c D Q nw s) {a : Int32} : wtnR c a = witM s a := sorry
theorem rs_witness {c : CS} {D : List ab_E} {Q : QT} {nw : Nat} {s : MS} (h : RS c D Q nw s) {a : Int32} : ∃ Q2 nw2, RS (wtnP c a) D Q2 nw2 (witS s nw a) := sorry
theorem eq_truth {c : CS} {D : List ab_E} {Q : QT} {nw : Nat} {s : MS} (h : RS c D Q nw s) {a : Int32} : trtR c a = truM s a := sorry
theorem rs_truth {c : CS} {D : List ab_E} {Q : QT} {nw : Nat} {s : MS} (h : RS c D Q nw s) {a : Int32} : ∃ Q2 nw2, RS (trtP c a) D Q2 nw2 (truS s a) := sorry
theorem eq_proved {c : CS} {D : List ab_E} {Q : QT} {nw : Nat} {s : MS} (h : RS c D Q nw s) {a : Int32} : provC (Q (2 * 0)).2 (Q (2 * 0)).1 (Q (2 * 0 + 1)).2 (Q (2 * 0 + 1)).1 a = provedM s (Q (2 * 0)).1 (Q (2 * 0 + 1)).1 a := sorry
theorem eq_proof {c : CS} {D : List ab_E} {Q : QT} {nw : Nat} {s : MS} (h : RS c D Q nw s) {a : Int32} : proofC (Q (2 * 0)).2 (Q (2 * 0)).1 (Q (2 * 0 + 1)).2 (Q (2 * 0 + 1)).1 a = proofM s (Q (2 * 0)).1 (Q (2 * 0 + 1)).1 a := sorry
theorem eq_slipped {c : CS} {D : List ab_E} {Q : QT} {nw : Nat} {s : MS} (h : RS c D Q nw s)  : slippedC (Q (2 * 0)).2 (Q (2 * 0)).1 (Q (2 * 0 + 1)).2 (Q (2 * 0 + 1)).1 = slippedM s (Q (2 * 0)).1 (Q (2 * 0 + 1)).1 := sorry
theorem eq_ask {c : CS} {D : List ab_E} {Q : QT} {nw : Nat} {s : MS} (h : RS c D Q nw s)  : askC (Q (2 * 0)).2 (Q (2 * 0)).1 (Q (2 * 0 + 1)).2 (Q (2 * 0 + 1)).1 = askM s (Q (2 * 0)).1 (Q (2 * 0 + 1)).1 := sorry
theorem eq_plain {c : CS} {D : List ab_E} {Q : QT} {nw : Nat} {s : MS} (h : RS c D Q nw s)  : plainC (Q (2 * 0)).2 (Q (2 * 0)).1 (Q (2 * 0 + 1)).2 (Q (2 * 0 + 1)).1 nw = plainM s (Q (2 * 0)).1 nw (Q (2 * 0 + 1)).1 := sorry
theorem eq_order {c : CS} {D : List ab_E} {Q : QT} {nw : Nat} {s : MS} (h : RS c D Q nw s) {a : Int32} : orderC c (Q (2 * 0)).2 (Q (2 * 0)).1 (Q (2 * 0 + 1)).2 (Q (2 * 0 + 1)).1 nw a = orderM s (Q (2 * 0)).1 nw (Q (2 * 0 + 1)).1 a := sorry
theorem eq_without {c : CS} {D : List ab_E} {Q : QT} {nw : Nat} {s : MS} (h : RS c D Q nw s) {a : Int32} : withC c (Q (2 * 0)).2 (Q (2 * 0)).1 (Q (2 * 0 + 1)).2 (Q (2 * 0 + 1)).1 a = withoutM s (Q (2 * 0)).1 (Q (2 * 0 + 1)).1 a := sorry
theorem eq_lie {c : CS} {D : List ab_E} {Q : QT} {nw : Nat} {s : MS} (h : RS c D Q nw s) {a b : Int32} : lieC c (lfT (Q (2 * 0)).2 (Q (2 * 0)).1 (Q (2 * 0 + 1)).2 (Q (2 * 0 + 1)).1) a b = lieM s (Q (2 * 0)).1 (Q (2 * 0 + 1)).1 a b := sorry
theorem eq_twoLies {c : CS} {D : List ab_E} {Q : QT} {nw : Nat} {s : MS} (h : RS c D Q nw s) {a b : Int32} : twoC c (lfT (Q (2 * 0)).2 (Q (2 * 0)).1 (Q (2 * 0 + 1)).2 (Q (2 * 0 + 1)).1) a b = twoM s (Q (2 * 0)).1 (Q (2 * 0 + 1)).1 a b := sorry
theorem rs_twoLies {c : CS} {D : List ab_E} {Q : QT} {nw : Nat} {s : MS} (h : RS c D Q nw s) {a b : Int32} : ∃ Q2 nw2, RS (twoP c a b) D Q2 nw2 s := sorry
theorem eq_certain {c : CS} {D : List ab_E} {Q : QT} {nw : Nat} {s : MS} (h : RS c D Q nw s) {a : Int32} : certC c (lfT (Q (2 * 0)).2 (Q (2 * 0)).1 (Q (2 * 0 + 1)).2 (Q (2 * 0 + 1)).1) a = certainM s (Q (2 * 0)).1 (Q (2 * 0 + 1)).1 a := sorry
theorem eq_knowsOf {c : CS} {D : List ab_E} {Q : QT} {nw : Nat} {s : MS} (h : RS c D Q nw s) {a b : Int32} : knofC c (lfT (Q (2 * 0)).2 (Q (2 * 0)).1 (Q (2 * 0 + 1)).2 (Q (2 * 0 + 1)).1) a b = knowsOfM s (Q (2 * 0)).1 (Q (2 * 0 + 1)).1 a b := sorry
theorem eq_allKnow {c : CS} {D : List ab_E} {Q : QT} {nw : Nat} {s : MS} (h : RS c D Q nw s) {a : Int32} : alkC c nw (lfT (Q (2 * 0)).2 (Q (2 * 0)).1 (Q (2 * 0 + 1)).2 (Q (2 * 0 + 1)).1) a = allKnowM s (Q (2 * 0)).1 nw (Q (2 * 0 + 1)).1 a := sorry
theorem eq_pencils {c : CS} {D : List ab_E} {Q : QT} {nw : Nat} {s : MS} (h : RS c D Q nw s) {a b d : Int32} : penC a b d = pcM a b d := sorry
theorem rs_pencils {c : CS} {D : List ab_E} {Q : QT} {nw : Nat} {s : MS} (h : RS c D Q nw s) {a b d : Int32} : ∃ Q2 nw2, RS c D Q2 nw2 (pcE s a b d) := sorry
theorem eq_fits {c : CS} {D : List ab_E} {Q : QT} {nw : Nat} {s : MS} (h : RS c D Q nw s) {a : Int32} : fitC c (Q (2 * 0)).2 (Q (2 * 0)).1 (Q (2 * 0 + 1)).2 a = fitsM s (Q (2 * 0)).1 a := sorry
theorem eq_judge {c : CS} {D : List ab_E} {Q : QT} {nw : Nat} {s : MS} (h : RS c D Q nw s) {a : Int32} : jgC c (Q (2 * 0)).2 (Q (2 * 0)).1 (Q (2 * 0 + 1)).2 (Q (2 * 0 + 1)).1 a = judgeM s (Q (2 * 0)).1 (Q (2 * 0 + 1)).1 a := sorry
theorem eq_seeds {c : CS} {D : List ab_E} {Q : QT} {nw : Nat} {s : MS} (h : RS c D Q nw s) {a b d : Int32} : sedC (c.1 (20 + 0)) (mbT (Q (2 * 0)).2 (Q (2 * 0)).1) nw a b d = seM s (Q (2 * 0)).1 nw a b d := sorry
theorem rs_seeds {c : CS} {D : List ab_E} {Q : QT} {nw : Nat} {s : MS} (h : RS c D Q nw s) {a b d : Int32} : ∃ Q2 nw2, RS c D Q2 nw2 (seS s (Q (2 * 0)).1 nw a b d) := sorry
theorem eq_image {c : CS} {D : List ab_E} {Q : QT} {nw : Nat} {s : MS} (h : RS c D Q nw s)  : nI (Q (2 * 0 + 1)).1 = s.1 5 := sorry
theorem rs_image {c : CS} {D : List ab_E} {Q : QT} {nw : Nat} {s : MS} (h : RS c D Q nw s)  : ∃ Q2 nw2, RS (imgP c D Q).1 (imgP c D Q).2 Q2 nw2 (imS s) := sorry
theorem eq_restore {c : CS} {D : List ab_E} {Q : QT} {nw : Nat} {s : MS} (h : RS c D Q nw s)  : rstR c Q = reM s := sorry
theorem rs_restore {c : CS} {D : List ab_E} {Q : QT} {nw : Nat} {s : MS} (h : RS c D Q nw s)  : ∃ Q2 nw2, RS (rstP c D Q).1 (rstP c D Q).2 Q2 nw2 (reS s) := sorry
theorem eq_keep {c : CS} {D : List ab_E} {Q : QT} {nw : Nat} {s : MS} (h : RS c D Q nw s) {a b d e : Int32} : kepR a b d e = keM a b d e := sorry
theorem rs_keep {c : CS} {D : List ab_E} {Q : QT} {nw : Nat} {s : MS} (h : RS c D Q nw s) {a b d e : Int32} : ∃ Q2 nw2, RS (kepP c a b d e) D Q2 nw2 (keS s a b d e) := sorry
theorem eq_row {c : CS} {D : List ab_E} {Q : QT} {nw : Nat} {s : MS} (h : RS c D Q nw s) {a b d : Int32} : roM a b d = roM a b d := sorry
theorem rs_row {c : CS} {D : List ab_E} {Q : QT} {nw : Nat} {s : MS} (h : RS c D Q nw s) {a b d : Int32} : ∃ Q2 nw2, RS (rowP c a b d) D Q2 nw2 (roS s a b d) := sorry
theorem eq_put {c : CS} {D : List ab_E} {Q : QT} {nw : Nat} {s : MS} (h : RS c D Q nw s) {a b d : Int32} : putR c a b = puM s a b := sorry
theorem rs_put {c : CS} {D : List ab_E} {Q : QT} {nw : Nat} {s : MS} (h : RS c D Q nw s) {a b d : Int32} : ∃ Q2 nw2, RS (putP c a b d) D Q2 nw2 (puS s a b d) := sorry
theorem eq_copy {c : CS} {D : List ab_E} {Q : QT} {nw : Nat} {s : MS} (h : RS c D Q nw s) {a b d e g : Int32} : cpR c a b d e g = coM s a b d e g := sorry
theorem rs_copy {c : CS} {D : List ab_E} {Q : QT} {nw : Nat} {s : MS} (h : RS c D Q nw s) {a b d e g : Int32} : ∃ Q2 nw2, RS (cpP c a b d e g) D Q2 nw2 (coS s a b d e g) := sorry
theorem rs_toss {c : CS} {D : List ab_E} {Q : QT} {nw : Nat} {s : MS} (h : RS c D Q nw s) {a : Int32} : ∃ Q2 nw2, RS c (tosD c D a) Q2 nw2 s := sorry
theorem eq_element {c : CS} {D : List ab_E} {Q : QT} {nw : Nat} {s : MS} (h : RS c D Q nw s) {a b : Int32} : elK c a b = elT s a b ∧ (elK c a b = 0 → (nuA c (tn a) b).toInt64 = elM s a b) := sorry
theorem rs_element {c : CS} {D : List ab_E} {Q : QT} {nw : Nat} {s : MS} (h : RS c D Q nw s) {f : Nat → Int64} (hD : D[0]? = some (eCell f)) {a b x : Int32} : RS c (elD c D f a b) Q nw (mu1 s 21 x) := sorry
