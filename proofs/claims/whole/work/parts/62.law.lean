-- PART 62: the law: its operations, its loop
section
variable {b L : Nat} {xs : Nat → Int32} {i : Nat} {S : MS}
theorem w_op0 (h : Rr S) (hi : i + 6 ≤ L) (hL : L ≤ 3072) (nx : ∀ S2, Rr S2 → wpL b L xs 1436 i [] S2) : wpL b L xs 228 i [] S := by
  refine w_x (by decide +kernel) ?_
  refine w_arg (k := 1) (by decide +kernel) (by decide +kernel) (by decide +kernel) (by decide +kernel) (by decide +kernel) (by decide +kernel) (by omega) hL ?_
  refine w_arg (k := 2) (by decide +kernel) (by decide +kernel) (by decide +kernel) (by decide +kernel) (by decide +kernel) (by decide +kernel) (by omega) hL ?_
  refine w_call (x := 13) (a := mX8_row) (k := 7) (as := [aI (xs (i + 1)), aI (xs (i + 2))]) (st := []) (o_row (d := 0) h) (by decide +kernel) (by decide +kernel) (wq_in (p := 233) (by decide +kernel)) (by decide +kernel) rfl (by decide) (by decide +kernel) (by decide +kernel) (Nat.le_of_ble_eq_true rfl) (Nat.le_of_ble_eq_true rfl) (Nat.le_of_ble_eq_true rfl) (fun v S1 h1 => ?_)
  obtain ⟨z, rfl, h1⟩ := h1
  refine w_m (by decide +kernel) ?_
  refine w_arg (k := 1) (by decide +kernel) (by decide +kernel) (by decide +kernel) (by decide +kernel) (by decide +kernel) (by decide +kernel) (by omega) hL ?_
  refine w_arg (k := 2) (by decide +kernel) (by decide +kernel) (by decide +kernel) (by decide +kernel) (by decide +kernel) (by decide +kernel) (by omega) hL ?_
  refine w_call (x := 17) (a := mX9_row) (k := 8) (as := [aI (xs (i + 1)), aI (xs (i + 2))]) (st := [aI z]) h1 (by decide +kernel) (by decide +kernel) (wq_in (p := 946) (by decide +kernel)) (by decide +kernel) rfl (by decide) (by decide +kernel) (by decide +kernel) (Nat.le_of_ble_eq_true rfl) (Nat.le_of_ble_eq_true rfl) (Nat.le_of_ble_eq_true rfl) (fun v S2 h2 => ?_)
  obtain ⟨rfl, h2⟩ := h2
  exact w_eq (off := 1180) (by decide +kernel) (by decide) (nx S2 h2)
theorem w_op1 (h : Rr S) (hi : i + 6 ≤ L) (hL : L ≤ 3072) (nx : ∀ S2, Rr S2 → wpL b L xs 1436 i [] S2) : wpL b L xs 261 i [] S := by
  refine w_x (by decide +kernel) ?_
  refine w_arg (k := 1) (by decide +kernel) (by decide +kernel) (by decide +kernel) (by decide +kernel) (by decide +kernel) (by decide +kernel) (by omega) hL ?_
  refine w_arg (k := 2) (by decide +kernel) (by decide +kernel) (by decide +kernel) (by decide +kernel) (by decide +kernel) (by decide +kernel) (by omega) hL ?_
  refine w_arg (k := 3) (by decide +kernel) (by decide +kernel) (by decide +kernel) (by decide +kernel) (by decide +kernel) (by decide +kernel) (by omega) hL ?_
  refine w_call (x := 18) (a := mX8_lay) (k := 7) (as := [aI (xs (i + 1)), aI (xs (i + 2)), aI (xs (i + 3))]) (st := []) (o_lay (d := 0) h) (by decide +kernel) (by decide +kernel) (wq_in (p := 254) (by decide +kernel)) (by decide +kernel) rfl (by decide) (by decide +kernel) (by decide +kernel) (Nat.le_of_ble_eq_true rfl) (Nat.le_of_ble_eq_true rfl) (Nat.le_of_ble_eq_true rfl) (fun v S1 h1 => ?_)
  obtain ⟨z, rfl, h1⟩ := h1
  refine w_m (by decide +kernel) ?_
  refine w_arg (k := 1) (by decide +kernel) (by decide +kernel) (by decide +kernel) (by decide +kernel) (by decide +kernel) (by decide +kernel) (by omega) hL ?_
  refine w_arg (k := 2) (by decide +kernel) (by decide +kernel) (by decide +kernel) (by decide +kernel) (by decide +kernel) (by decide +kernel) (by omega) hL ?_
  refine w_arg (k := 3) (by decide +kernel) (by decide +kernel) (by decide +kernel) (by decide +kernel) (by decide +kernel) (by decide +kernel) (by omega) hL ?_
  refine w_call (x := 22) (a := mX9_lay) (k := 8) (as := [aI (xs (i + 1)), aI (xs (i + 2)), aI (xs (i + 3))]) (st := [aI z]) h1 (by decide +kernel) (by decide +kernel) (wq_in (p := 957) (by decide +kernel)) (by decide +kernel) rfl (by decide) (by decide +kernel) (by decide +kernel) (Nat.le_of_ble_eq_true rfl) (Nat.le_of_ble_eq_true rfl) (Nat.le_of_ble_eq_true rfl) (fun v S2 h2 => ?_)
  obtain ⟨rfl, h2⟩ := h2
  exact w_eq (off := 1137) (by decide +kernel) (by decide) (nx S2 h2)
theorem w_op2 (h : Rr S) (hi : i + 6 ≤ L) (hL : L ≤ 3072) (nx : ∀ S2, Rr S2 → wpL b L xs 1436 i [] S2) : wpL b L xs 304 i [] S := by
  refine w_x (by decide +kernel) ?_
  refine w_arg (k := 1) (by decide +kernel) (by decide +kernel) (by decide +kernel) (by decide +kernel) (by decide +kernel) (by decide +kernel) (by omega) hL ?_
  refine w_arg (k := 2) (by decide +kernel) (by decide +kernel) (by decide +kernel) (by decide +kernel) (by decide +kernel) (by decide +kernel) (by omega) hL ?_
  refine w_call (x := 23) (a := mX8_at) (k := 7) (as := [aI (xs (i + 1)), aI (xs (i + 2))]) (st := []) (o_at (d := 0) h) (by decide +kernel) (by decide +kernel) (wq_in (p := 282) (by decide +kernel)) (by decide +kernel) rfl (by decide) (by decide +kernel) (by decide +kernel) (Nat.le_of_ble_eq_true rfl) (Nat.le_of_ble_eq_true rfl) (Nat.le_of_ble_eq_true rfl) (fun v S1 h1 => ?_)
  obtain ⟨z, rfl, h1⟩ := h1
  refine w_m (by decide +kernel) ?_
  refine w_arg (k := 1) (by decide +kernel) (by decide +kernel) (by decide +kernel) (by decide +kernel) (by decide +kernel) (by decide +kernel) (by omega) hL ?_
  refine w_arg (k := 2) (by decide +kernel) (by decide +kernel) (by decide +kernel) (by decide +kernel) (by decide +kernel) (by decide +kernel) (by omega) hL ?_
  refine w_call (x := 26) (a := mX9_at) (k := 8) (as := [aI (xs (i + 1)), aI (xs (i + 2))]) (st := [aI z]) h1 (by decide +kernel) (by decide +kernel) (wq_in (p := 969) (by decide +kernel)) (by decide +kernel) rfl (by decide) (by decide +kernel) (by decide +kernel) (Nat.le_of_ble_eq_true rfl) (Nat.le_of_ble_eq_true rfl) (Nat.le_of_ble_eq_true rfl) (fun v S2 h2 => ?_)
  obtain ⟨rfl, h2⟩ := h2
  exact w_eq (off := 1104) (by decide +kernel) (by decide) (nx S2 h2)
theorem w_op3 (h : Rr S) (hi : i + 6 ≤ L) (hL : L ≤ 3072) (nx : ∀ S2, Rr S2 → wpL b L xs 1436 i [] S2) : wpL b L xs 337 i [] S := by
  refine w_x (by decide +kernel) ?_
  refine w_arg (k := 1) (by decide +kernel) (by decide +kernel) (by decide +kernel) (by decide +kernel) (by decide +kernel) (by decide +kernel) (by omega) hL ?_
  refine w_call (x := 27) (a := mX8_tear) (k := 7) (as := [aI (xs (i + 1))]) (st := []) (o_tear (d := 0) h) (by decide +kernel) (by decide +kernel) (wq_in (p := 286) (by decide +kernel)) (by decide +kernel) rfl (by decide) (by decide +kernel) (by decide +kernel) (Nat.le_of_ble_eq_true rfl) (Nat.le_of_ble_eq_true rfl) (Nat.le_of_ble_eq_true rfl) (fun v S1 h1 => ?_)
  obtain ⟨z, rfl, h1⟩ := h1
  refine w_m (by decide +kernel) ?_
  refine w_arg (k := 1) (by decide +kernel) (by decide +kernel) (by decide +kernel) (by decide +kernel) (by decide +kernel) (by decide +kernel) (by omega) hL ?_
  refine w_call (x := 31) (a := mX9_tear) (k := 8) (as := [aI (xs (i + 1))]) (st := [aI z]) h1 (by decide +kernel) (by decide +kernel) (wq_in (p := 973) (by decide +kernel)) (by decide +kernel) rfl (by decide) (by decide +kernel) (by decide +kernel) (Nat.le_of_ble_eq_true rfl) (Nat.le_of_ble_eq_true rfl) (Nat.le_of_ble_eq_true rfl) (fun v S2 h2 => ?_)
  obtain ⟨rfl, h2⟩ := h2
  exact w_eq (off := 1081) (by decide +kernel) (by decide) (nx S2 h2)
theorem w_op4 (h : Rr S) (hi : i + 6 ≤ L) (hL : L ≤ 3072) (nx : ∀ S2, Rr S2 → wpL b L xs 1436 i [] S2) : wpL b L xs 360 i [] S := by
  refine w_x (by decide +kernel) ?_
  refine w_arg (k := 1) (by decide +kernel) (by decide +kernel) (by decide +kernel) (by decide +kernel) (by decide +kernel) (by decide +kernel) (by omega) hL ?_
  refine w_arg (k := 2) (by decide +kernel) (by decide +kernel) (by decide +kernel) (by decide +kernel) (by decide +kernel) (by decide +kernel) (by omega) hL ?_
  refine w_arg (k := 3) (by decide +kernel) (by decide +kernel) (by decide +kernel) (by decide +kernel) (by decide +kernel) (by decide +kernel) (by omega) hL ?_
  refine w_arg (k := 4) (by decide +kernel) (by decide +kernel) (by decide +kernel) (by decide +kernel) (by decide +kernel) (by decide +kernel) (by omega) hL ?_
  refine w_arg (k := 5) (by decide +kernel) (by decide +kernel) (by decide +kernel) (by decide +kernel) (by decide +kernel) (by decide +kernel) (by omega) hL ?_
  refine w_call (x := 32) (a := mX8_copy) (k := 7) (as := [aI (xs (i + 1)), aI (xs (i + 2)), aI (xs (i + 3)), aI (xs (i + 4)), aI (xs (i + 5))]) (st := []) (o_copy (d := 0) h) (by decide +kernel) (by decide +kernel) (wq_in (p := 294) (by decide +kernel)) (by decide +kernel) rfl (by decide) (by decide +kernel) (by decide +kernel) (Nat.le_of_ble_eq_true rfl) (Nat.le_of_ble_eq_true rfl) (Nat.le_of_ble_eq_true rfl) (fun v S1 h1 => ?_)
  obtain ⟨z, rfl, h1⟩ := h1
  refine w_m (by decide +kernel) ?_
  refine w_arg (k := 1) (by decide +kernel) (by decide +kernel) (by decide +kernel) (by decide +kernel) (by decide +kernel) (by decide +kernel) (by omega) hL ?_
  refine w_arg (k := 2) (by decide +kernel) (by decide +kernel) (by decide +kernel) (by decide +kernel) (by decide +kernel) (by decide +kernel) (by omega) hL ?_
  refine w_arg (k := 3) (by decide +kernel) (by decide +kernel) (by decide +kernel) (by decide +kernel) (by decide +kernel) (by decide +kernel) (by omega) hL ?_
  refine w_arg (k := 4) (by decide +kernel) (by decide +kernel) (by decide +kernel) (by decide +kernel) (by decide +kernel) (by decide +kernel) (by omega) hL ?_
  refine w_arg (k := 5) (by decide +kernel) (by decide +kernel) (by decide +kernel) (by decide +kernel) (by decide +kernel) (by decide +kernel) (by omega) hL ?_
  refine w_call (x := 36) (a := mX9_copy) (k := 8) (as := [aI (xs (i + 1)), aI (xs (i + 2)), aI (xs (i + 3)), aI (xs (i + 4)), aI (xs (i + 5))]) (st := [aI z]) h1 (by decide +kernel) (by decide +kernel) (wq_in (p := 977) (by decide +kernel)) (by decide +kernel) rfl (by decide) (by decide +kernel) (by decide +kernel) (Nat.le_of_ble_eq_true rfl) (Nat.le_of_ble_eq_true rfl) (Nat.le_of_ble_eq_true rfl) (fun v S2 h2 => ?_)
  obtain ⟨rfl, h2⟩ := h2
  exact w_eq (off := 1018) (by decide +kernel) (by decide) (nx S2 h2)
theorem w_op5 (h : Rr S) (hi : i + 6 ≤ L) (hL : L ≤ 3072) (nx : ∀ S2, Rr S2 → wpL b L xs 1436 i [] S2) : wpL b L xs 423 i [] S := by
  refine w_x (by decide +kernel) ?_
  refine w_arg (k := 1) (by decide +kernel) (by decide +kernel) (by decide +kernel) (by decide +kernel) (by decide +kernel) (by decide +kernel) (by omega) hL ?_
  refine w_call (x := 37) (a := mX8_mean) (k := 7) (as := [aI (xs (i + 1))]) (st := []) (o_mean (d := 0) h) (by decide +kernel) (by decide +kernel) (wq_in (p := 309) (by decide +kernel)) (by decide +kernel) rfl (by decide) (by decide +kernel) (by decide +kernel) (Nat.le_of_ble_eq_true rfl) (Nat.le_of_ble_eq_true rfl) (Nat.le_of_ble_eq_true rfl) (fun v S1 h1 => ?_)
  obtain ⟨z, rfl, h1⟩ := h1
  refine w_m (by decide +kernel) ?_
  refine w_arg (k := 1) (by decide +kernel) (by decide +kernel) (by decide +kernel) (by decide +kernel) (by decide +kernel) (by decide +kernel) (by omega) hL ?_
  refine w_call (x := 40) (a := mX9_mean) (k := 8) (as := [aI (xs (i + 1))]) (st := [aI z]) h1 (by decide +kernel) (by decide +kernel) (wq_in (p := 981) (by decide +kernel)) (by decide +kernel) rfl (by decide) (by decide +kernel) (by decide +kernel) (Nat.le_of_ble_eq_true rfl) (Nat.le_of_ble_eq_true rfl) (Nat.le_of_ble_eq_true rfl) (fun v S2 h2 => ?_)
  obtain ⟨rfl, h2⟩ := h2
  exact w_eq (off := 995) (by decide +kernel) (by decide) (nx S2 h2)
theorem w_op6 (h : Rr S) (hi : i + 6 ≤ L) (hL : L ≤ 3072) (nx : ∀ S2, Rr S2 → wpL b L xs 1436 i [] S2) : wpL b L xs 446 i [] S := by
  refine w_x (by decide +kernel) ?_
  refine w_arg (k := 1) (by decide +kernel) (by decide +kernel) (by decide +kernel) (by decide +kernel) (by decide +kernel) (by decide +kernel) (by omega) hL ?_
  refine w_arg (k := 2) (by decide +kernel) (by decide +kernel) (by decide +kernel) (by decide +kernel) (by decide +kernel) (by decide +kernel) (by omega) hL ?_
  refine w_call (x := 41) (a := mX8_text) (k := 7) (as := [aI (xs (i + 1)), aI (xs (i + 2))]) (st := []) (o_text (d := 0) h) (by decide +kernel) (by decide +kernel) (wq_in (p := 313) (by decide +kernel)) (by decide +kernel) rfl (by decide) (by decide +kernel) (by decide +kernel) (Nat.le_of_ble_eq_true rfl) (Nat.le_of_ble_eq_true rfl) (Nat.le_of_ble_eq_true rfl) (fun v S1 h1 => ?_)
  obtain ⟨z, rfl, h1⟩ := h1
  refine w_m (by decide +kernel) ?_
  refine w_arg (k := 1) (by decide +kernel) (by decide +kernel) (by decide +kernel) (by decide +kernel) (by decide +kernel) (by decide +kernel) (by omega) hL ?_
  refine w_arg (k := 2) (by decide +kernel) (by decide +kernel) (by decide +kernel) (by decide +kernel) (by decide +kernel) (by decide +kernel) (by omega) hL ?_
  refine w_call (x := 44) (a := mX9_text) (k := 8) (as := [aI (xs (i + 1)), aI (xs (i + 2))]) (st := [aI z]) h1 (by decide +kernel) (by decide +kernel) (wq_in (p := 985) (by decide +kernel)) (by decide +kernel) rfl (by decide) (by decide +kernel) (by decide +kernel) (Nat.le_of_ble_eq_true rfl) (Nat.le_of_ble_eq_true rfl) (Nat.le_of_ble_eq_true rfl) (fun v S2 h2 => ?_)
  obtain ⟨rfl, h2⟩ := h2
  exact w_eq (off := 962) (by decide +kernel) (by decide) (nx S2 h2)
theorem w_op7 (h : Rr S) (hi : i + 6 ≤ L) (hL : L ≤ 3072) (nx : ∀ S2, Rr S2 → wpL b L xs 1436 i [] S2) : wpL b L xs 479 i [] S := by
  refine w_x (by decide +kernel) ?_
  refine w_arg (k := 1) (by decide +kernel) (by decide +kernel) (by decide +kernel) (by decide +kernel) (by decide +kernel) (by decide +kernel) (by omega) hL ?_
  refine w_arg (k := 2) (by decide +kernel) (by decide +kernel) (by decide +kernel) (by decide +kernel) (by decide +kernel) (by decide +kernel) (by omega) hL ?_
  refine w_arg (k := 3) (by decide +kernel) (by decide +kernel) (by decide +kernel) (by decide +kernel) (by decide +kernel) (by decide +kernel) (by omega) hL ?_
  refine w_call (x := 45) (a := mX8_put) (k := 7) (as := [aI (xs (i + 1)), aI (xs (i + 2)), aI (xs (i + 3))]) (st := []) (o_put (d := 0) h) (by decide +kernel) (by decide +kernel) (wq_in (p := 327) (by decide +kernel)) (by decide +kernel) rfl (by decide) (by decide +kernel) (by decide +kernel) (Nat.le_of_ble_eq_true rfl) (Nat.le_of_ble_eq_true rfl) (Nat.le_of_ble_eq_true rfl) (fun v S1 h1 => ?_)
  obtain ⟨z, rfl, h1⟩ := h1
  refine w_m (by decide +kernel) ?_
  refine w_arg (k := 1) (by decide +kernel) (by decide +kernel) (by decide +kernel) (by decide +kernel) (by decide +kernel) (by decide +kernel) (by omega) hL ?_
  refine w_arg (k := 2) (by decide +kernel) (by decide +kernel) (by decide +kernel) (by decide +kernel) (by decide +kernel) (by decide +kernel) (by omega) hL ?_
  refine w_arg (k := 3) (by decide +kernel) (by decide +kernel) (by decide +kernel) (by decide +kernel) (by decide +kernel) (by decide +kernel) (by omega) hL ?_
  refine w_call (x := 48) (a := mX9_put) (k := 8) (as := [aI (xs (i + 1)), aI (xs (i + 2)), aI (xs (i + 3))]) (st := [aI z]) h1 (by decide +kernel) (by decide +kernel) (wq_in (p := 992) (by decide +kernel)) (by decide +kernel) rfl (by decide) (by decide +kernel) (by decide +kernel) (Nat.le_of_ble_eq_true rfl) (Nat.le_of_ble_eq_true rfl) (Nat.le_of_ble_eq_true rfl) (fun v S2 h2 => ?_)
  obtain ⟨rfl, h2⟩ := h2
  exact w_eq (off := 919) (by decide +kernel) (by decide) (nx S2 h2)
theorem w_op8 (h : Rr S) (hi : i + 6 ≤ L) (hL : L ≤ 3072) (nx : ∀ S2, Rr S2 → wpL b L xs 1436 i [] S2) : wpL b L xs 522 i [] S := by
  refine w_x (by decide +kernel) ?_
  refine w_arg (k := 1) (by decide +kernel) (by decide +kernel) (by decide +kernel) (by decide +kernel) (by decide +kernel) (by decide +kernel) (by omega) hL ?_
  refine w_call (x := 49) (a := mX8_fault) (k := 7) (as := [aI (xs (i + 1))]) (st := []) (o_fault (d := 0) h) (by decide +kernel) (by decide +kernel) (wq_in (p := 347) (by decide +kernel)) (by decide +kernel) rfl (by decide) (by decide +kernel) (by decide +kernel) (Nat.le_of_ble_eq_true rfl) (Nat.le_of_ble_eq_true rfl) (Nat.le_of_ble_eq_true rfl) (fun v S1 h1 => ?_)
  obtain ⟨z, rfl, h1⟩ := h1
  refine w_m (by decide +kernel) ?_
  refine w_arg (k := 1) (by decide +kernel) (by decide +kernel) (by decide +kernel) (by decide +kernel) (by decide +kernel) (by decide +kernel) (by omega) hL ?_
  refine w_call (x := 52) (a := mX9_fault) (k := 8) (as := [aI (xs (i + 1))]) (st := [aI z]) h1 (by decide +kernel) (by decide +kernel) (wq_in (p := 996) (by decide +kernel)) (by decide +kernel) rfl (by decide) (by decide +kernel) (by decide +kernel) (Nat.le_of_ble_eq_true rfl) (Nat.le_of_ble_eq_true rfl) (Nat.le_of_ble_eq_true rfl) (fun v S2 h2 => ?_)
  obtain ⟨rfl, h2⟩ := h2
  exact w_eq (off := 896) (by decide +kernel) (by decide) (nx S2 h2)
theorem w_op9 (h : Rr S) (hi : i + 6 ≤ L) (hL : L ≤ 3072) (nx : ∀ S2, Rr S2 → wpL b L xs 1436 i [] S2) : wpL b L xs 545 i [] S := by
  refine w_x (by decide +kernel) ?_
  refine w_arg (k := 1) (by decide +kernel) (by decide +kernel) (by decide +kernel) (by decide +kernel) (by decide +kernel) (by decide +kernel) (by omega) hL ?_
  refine w_call (x := 53) (a := mX8_year) (k := 7) (as := [aI (xs (i + 1))]) (st := []) (o_year (d := 0) h) (by decide +kernel) (by decide +kernel) (wq_in (p := 386) (by decide +kernel)) (by decide +kernel) rfl (by decide) (by decide +kernel) (by decide +kernel) (Nat.le_of_ble_eq_true rfl) (Nat.le_of_ble_eq_true rfl) (Nat.le_of_ble_eq_true rfl) (fun v S1 h1 => ?_)
  obtain ⟨z, rfl, h1⟩ := h1
  refine w_m (by decide +kernel) ?_
  refine w_arg (k := 1) (by decide +kernel) (by decide +kernel) (by decide +kernel) (by decide +kernel) (by decide +kernel) (by decide +kernel) (by omega) hL ?_
  refine w_call (x := 56) (a := mX9_year) (k := 8) (as := [aI (xs (i + 1))]) (st := [aI z]) h1 (by decide +kernel) (by decide +kernel) (wq_in (p := 1023) (by decide +kernel)) (by decide +kernel) rfl (by decide) (by decide +kernel) (by decide +kernel) (Nat.le_of_ble_eq_true rfl) (Nat.le_of_ble_eq_true rfl) (Nat.le_of_ble_eq_true rfl) (fun v S2 h2 => ?_)
  obtain ⟨rfl, h2⟩ := h2
  exact w_eq (off := 873) (by decide +kernel) (by decide) (nx S2 h2)
theorem w_op10 (h : Rr S) (hi : i + 6 ≤ L) (hL : L ≤ 3072) (nx : ∀ S2, Rr S2 → wpL b L xs 1436 i [] S2) : wpL b L xs 568 i [] S := by
  refine w_x (by decide +kernel) ?_
  refine w_arg (k := 1) (by decide +kernel) (by decide +kernel) (by decide +kernel) (by decide +kernel) (by decide +kernel) (by decide +kernel) (by omega) hL ?_
  refine w_arg (k := 2) (by decide +kernel) (by decide +kernel) (by decide +kernel) (by decide +kernel) (by decide +kernel) (by decide +kernel) (by omega) hL ?_
  refine w_call (x := 57) (a := mX8_deed) (k := 7) (as := [aI (xs (i + 1)), aI (xs (i + 2))]) (st := []) (o_deed (d := 0) h) (by decide +kernel) (by decide +kernel) (wq_in (p := 399) (by decide +kernel)) (by decide +kernel) rfl (by decide) (by decide +kernel) (by decide +kernel) (Nat.le_of_ble_eq_true rfl) (Nat.le_of_ble_eq_true rfl) (Nat.le_of_ble_eq_true rfl) (fun v S1 h1 => ?_)
  obtain ⟨z, rfl, h1⟩ := h1
  refine w_m (by decide +kernel) ?_
  refine w_arg (k := 1) (by decide +kernel) (by decide +kernel) (by decide +kernel) (by decide +kernel) (by decide +kernel) (by decide +kernel) (by omega) hL ?_
  refine w_arg (k := 2) (by decide +kernel) (by decide +kernel) (by decide +kernel) (by decide +kernel) (by decide +kernel) (by decide +kernel) (by omega) hL ?_
  refine w_call (x := 60) (a := mX9_deed) (k := 8) (as := [aI (xs (i + 1)), aI (xs (i + 2))]) (st := [aI z]) h1 (by decide +kernel) (by decide +kernel) (wq_in (p := 1027) (by decide +kernel)) (by decide +kernel) rfl (by decide) (by decide +kernel) (by decide +kernel) (Nat.le_of_ble_eq_true rfl) (Nat.le_of_ble_eq_true rfl) (Nat.le_of_ble_eq_true rfl) (fun v S2 h2 => ?_)
  obtain ⟨rfl, h2⟩ := h2
  exact w_eq (off := 840) (by decide +kernel) (by decide) (nx S2 h2)
theorem w_op11 (h : Rr S) (hi : i + 6 ≤ L) (hL : L ≤ 3072) (nx : ∀ S2, Rr S2 → wpL b L xs 1436 i [] S2) : wpL b L xs 601 i [] S := by
  refine w_x (by decide +kernel) ?_
  refine w_arg (k := 1) (by decide +kernel) (by decide +kernel) (by decide +kernel) (by decide +kernel) (by decide +kernel) (by decide +kernel) (by omega) hL ?_
  refine w_arg (k := 2) (by decide +kernel) (by decide +kernel) (by decide +kernel) (by decide +kernel) (by decide +kernel) (by decide +kernel) (by omega) hL ?_
  refine w_call (x := 61) (a := mX8_mark) (k := 7) (as := [aI (xs (i + 1)), aI (xs (i + 2))]) (st := []) (o_mark (d := 0) h) (by decide +kernel) (by decide +kernel) (wq_in (p := 429) (by decide +kernel)) (by decide +kernel) rfl (by decide) (by decide +kernel) (by decide +kernel) (Nat.le_of_ble_eq_true rfl) (Nat.le_of_ble_eq_true rfl) (Nat.le_of_ble_eq_true rfl) (fun v S1 h1 => ?_)
  obtain ⟨z, rfl, h1⟩ := h1
  refine w_m (by decide +kernel) ?_
  refine w_arg (k := 1) (by decide +kernel) (by decide +kernel) (by decide +kernel) (by decide +kernel) (by decide +kernel) (by decide +kernel) (by omega) hL ?_
  refine w_arg (k := 2) (by decide +kernel) (by decide +kernel) (by decide +kernel) (by decide +kernel) (by decide +kernel) (by decide +kernel) (by omega) hL ?_
  refine w_call (x := 64) (a := mX9_mark) (k := 8) (as := [aI (xs (i + 1)), aI (xs (i + 2))]) (st := [aI z]) h1 (by decide +kernel) (by decide +kernel) (wq_in (p := 1046) (by decide +kernel)) (by decide +kernel) rfl (by decide) (by decide +kernel) (by decide +kernel) (Nat.le_of_ble_eq_true rfl) (Nat.le_of_ble_eq_true rfl) (Nat.le_of_ble_eq_true rfl) (fun v S2 h2 => ?_)
  obtain ⟨rfl, h2⟩ := h2
  exact w_eq (off := 807) (by decide +kernel) (by decide) (nx S2 h2)
theorem w_op12 (h : Rr S) (hi : i + 6 ≤ L) (hL : L ≤ 3072) (nx : ∀ S2, Rr S2 → wpL b L xs 1436 i [] S2) : wpL b L xs 634 i [] S := by
  refine w_x (by decide +kernel) ?_
  refine w_arg (k := 1) (by decide +kernel) (by decide +kernel) (by decide +kernel) (by decide +kernel) (by decide +kernel) (by decide +kernel) (by omega) hL ?_
  refine w_arg (k := 2) (by decide +kernel) (by decide +kernel) (by decide +kernel) (by decide +kernel) (by decide +kernel) (by decide +kernel) (by omega) hL ?_
  refine w_call (x := 65) (a := mX8_day) (k := 7) (as := [aI (xs (i + 1)), aI (xs (i + 2))]) (st := []) (o_day (d := 0) h) (by decide +kernel) (by decide +kernel) (wq_in (p := 441) (by decide +kernel)) (by decide +kernel) rfl (by decide) (by decide +kernel) (by decide +kernel) (Nat.le_of_ble_eq_true rfl) (Nat.le_of_ble_eq_true rfl) (Nat.le_of_ble_eq_true rfl) (fun v S1 h1 => ?_)
  obtain ⟨z, rfl, h1⟩ := h1
  refine w_m (by decide +kernel) ?_
  refine w_arg (k := 1) (by decide +kernel) (by decide +kernel) (by decide +kernel) (by decide +kernel) (by decide +kernel) (by decide +kernel) (by omega) hL ?_
  refine w_arg (k := 2) (by decide +kernel) (by decide +kernel) (by decide +kernel) (by decide +kernel) (by decide +kernel) (by decide +kernel) (by omega) hL ?_
  refine w_call (x := 68) (a := mX9_day) (k := 8) (as := [aI (xs (i + 1)), aI (xs (i + 2))]) (st := [aI z]) h1 (by decide +kernel) (by decide +kernel) (wq_in (p := 1054) (by decide +kernel)) (by decide +kernel) rfl (by decide) (by decide +kernel) (by decide +kernel) (Nat.le_of_ble_eq_true rfl) (Nat.le_of_ble_eq_true rfl) (Nat.le_of_ble_eq_true rfl) (fun v S2 h2 => ?_)
  obtain ⟨rfl, h2⟩ := h2
  exact w_eq (off := 774) (by decide +kernel) (by decide) (nx S2 h2)
theorem w_op13 (h : Rr S) (hi : i + 6 ≤ L) (hL : L ≤ 3072) (nx : ∀ S2, Rr S2 → wpL b L xs 1436 i [] S2) : wpL b L xs 667 i [] S := by
  refine w_x (by decide +kernel) ?_
  refine w_arg (k := 1) (by decide +kernel) (by decide +kernel) (by decide +kernel) (by decide +kernel) (by decide +kernel) (by decide +kernel) (by omega) hL ?_
  refine w_call (x := 69) (a := mX8_drop) (k := 7) (as := [aI (xs (i + 1))]) (st := []) (o_drop (d := 0) h) (by decide +kernel) (by decide +kernel) (wq_in (p := 501) (by decide +kernel)) (by decide +kernel) rfl (by decide) (by decide +kernel) (by decide +kernel) (Nat.le_of_ble_eq_true rfl) (Nat.le_of_ble_eq_true rfl) (Nat.le_of_ble_eq_true rfl) (fun v S1 h1 => ?_)
  obtain ⟨z, rfl, h1⟩ := h1
  refine w_m (by decide +kernel) ?_
  refine w_arg (k := 1) (by decide +kernel) (by decide +kernel) (by decide +kernel) (by decide +kernel) (by decide +kernel) (by decide +kernel) (by omega) hL ?_
  refine w_call (x := 72) (a := mX9_drop) (k := 8) (as := [aI (xs (i + 1))]) (st := [aI z]) h1 (by decide +kernel) (by decide +kernel) (wq_in (p := 1096) (by decide +kernel)) (by decide +kernel) rfl (by decide) (by decide +kernel) (by decide +kernel) (Nat.le_of_ble_eq_true rfl) (Nat.le_of_ble_eq_true rfl) (Nat.le_of_ble_eq_true rfl) (fun v S2 h2 => ?_)
  obtain ⟨rfl, h2⟩ := h2
  exact w_eq (off := 751) (by decide +kernel) (by decide) (nx S2 h2)
theorem w_op14 (h : Rr S) (hi : i + 6 ≤ L) (hL : L ≤ 3072) (nx : ∀ S2, Rr S2 → wpL b L xs 1436 i [] S2) : wpL b L xs 690 i [] S := by
  refine w_x (by decide +kernel) ?_
  refine w_arg (k := 1) (by decide +kernel) (by decide +kernel) (by decide +kernel) (by decide +kernel) (by decide +kernel) (by decide +kernel) (by omega) hL ?_
  refine w_call (x := 73) (a := mX8_take) (k := 7) (as := [aI (xs (i + 1))]) (st := []) (o_take (d := 0) h) (by decide +kernel) (by decide +kernel) (wq_in (p := 510) (by decide +kernel)) (by decide +kernel) rfl (by decide) (by decide +kernel) (by decide +kernel) (Nat.le_of_ble_eq_true rfl) (Nat.le_of_ble_eq_true rfl) (Nat.le_of_ble_eq_true rfl) (fun v S1 h1 => ?_)
  obtain ⟨z, rfl, h1⟩ := h1
  refine w_m (by decide +kernel) ?_
  refine w_arg (k := 1) (by decide +kernel) (by decide +kernel) (by decide +kernel) (by decide +kernel) (by decide +kernel) (by decide +kernel) (by omega) hL ?_
  refine w_call (x := 76) (a := mX9_take) (k := 8) (as := [aI (xs (i + 1))]) (st := [aI z]) h1 (by decide +kernel) (by decide +kernel) (wq_in (p := 1100) (by decide +kernel)) (by decide +kernel) rfl (by decide) (by decide +kernel) (by decide +kernel) (Nat.le_of_ble_eq_true rfl) (Nat.le_of_ble_eq_true rfl) (Nat.le_of_ble_eq_true rfl) (fun v S2 h2 => ?_)
  obtain ⟨rfl, h2⟩ := h2
  exact w_eq (off := 728) (by decide +kernel) (by decide) (nx S2 h2)
theorem w_op15 (h : Rr S) (hi : i + 6 ≤ L) (hL : L ≤ 3072) (nx : ∀ S2, Rr S2 → wpL b L xs 1436 i [] S2) : wpL b L xs 713 i [] S := by
  refine w_x (by decide +kernel) ?_
  refine w_arg (k := 1) (by decide +kernel) (by decide +kernel) (by decide +kernel) (by decide +kernel) (by decide +kernel) (by decide +kernel) (by omega) hL ?_
  refine w_call (x := 77) (a := mX8_will) (k := 7) (as := [aI (xs (i + 1))]) (st := []) (o_will (d := 0) h) (by decide +kernel) (by decide +kernel) (wq_in (p := 514) (by decide +kernel)) (by decide +kernel) rfl (by decide) (by decide +kernel) (by decide +kernel) (Nat.le_of_ble_eq_true rfl) (Nat.le_of_ble_eq_true rfl) (Nat.le_of_ble_eq_true rfl) (fun v S1 h1 => ?_)
  obtain ⟨z, rfl, h1⟩ := h1
  refine w_m (by decide +kernel) ?_
  refine w_arg (k := 1) (by decide +kernel) (by decide +kernel) (by decide +kernel) (by decide +kernel) (by decide +kernel) (by decide +kernel) (by omega) hL ?_
  refine w_call (x := 80) (a := mX9_will) (k := 8) (as := [aI (xs (i + 1))]) (st := [aI z]) h1 (by decide +kernel) (by decide +kernel) (wq_in (p := 1104) (by decide +kernel)) (by decide +kernel) rfl (by decide) (by decide +kernel) (by decide +kernel) (Nat.le_of_ble_eq_true rfl) (Nat.le_of_ble_eq_true rfl) (Nat.le_of_ble_eq_true rfl) (fun v S2 h2 => ?_)
  obtain ⟨rfl, h2⟩ := h2
  exact w_eq (off := 705) (by decide +kernel) (by decide) (nx S2 h2)
theorem w_op16 (h : Rr S) (hi : i + 6 ≤ L) (hL : L ≤ 3072) (nx : ∀ S2, Rr S2 → wpL b L xs 1436 i [] S2) : wpL b L xs 736 i [] S := by
  refine w_x (by decide +kernel) ?_
  refine w_arg (k := 1) (by decide +kernel) (by decide +kernel) (by decide +kernel) (by decide +kernel) (by decide +kernel) (by decide +kernel) (by omega) hL ?_
  refine w_call (x := 81) (a := mX8_undo) (k := 7) (as := [aI (xs (i + 1))]) (st := []) (o_undo (d := 0) h) (by decide +kernel) (by decide +kernel) (wq_in (p := 518) (by decide +kernel)) (by decide +kernel) rfl (by decide) (by decide +kernel) (by decide +kernel) (Nat.le_of_ble_eq_true rfl) (Nat.le_of_ble_eq_true rfl) (Nat.le_of_ble_eq_true rfl) (fun v S1 h1 => ?_)
  obtain ⟨z, rfl, h1⟩ := h1
  refine w_m (by decide +kernel) ?_
  refine w_arg (k := 1) (by decide +kernel) (by decide +kernel) (by decide +kernel) (by decide +kernel) (by decide +kernel) (by decide +kernel) (by omega) hL ?_
  refine w_call (x := 84) (a := mX9_undo) (k := 8) (as := [aI (xs (i + 1))]) (st := [aI z]) h1 (by decide +kernel) (by decide +kernel) (wq_in (p := 1108) (by decide +kernel)) (by decide +kernel) rfl (by decide) (by decide +kernel) (by decide +kernel) (Nat.le_of_ble_eq_true rfl) (Nat.le_of_ble_eq_true rfl) (Nat.le_of_ble_eq_true rfl) (fun v S2 h2 => ?_)
  obtain ⟨rfl, h2⟩ := h2
  exact w_eq (off := 682) (by decide +kernel) (by decide) (nx S2 h2)
theorem w_op17 (h : Rr S) (hi : i + 6 ≤ L) (hL : L ≤ 3072) (nx : ∀ S2, Rr S2 → wpL b L xs 1436 i [] S2) : wpL b L xs 759 i [] S := by
  refine w_x (by decide +kernel) ?_
  refine w_arg (k := 1) (by decide +kernel) (by decide +kernel) (by decide +kernel) (by decide +kernel) (by decide +kernel) (by decide +kernel) (by omega) hL ?_
  refine w_call (x := 85) (a := mX8_keep) (k := 7) (as := [aI (xs (i + 1))]) (st := []) (o_keep (d := 0) h) (by decide +kernel) (by decide +kernel) (wq_in (p := 526) (by decide +kernel)) (by decide +kernel) rfl (by decide) (by decide +kernel) (by decide +kernel) (Nat.le_of_ble_eq_true rfl) (Nat.le_of_ble_eq_true rfl) (Nat.le_of_ble_eq_true rfl) (fun v S1 h1 => ?_)
  obtain ⟨z, rfl, h1⟩ := h1
  refine w_m (by decide +kernel) ?_
  refine w_arg (k := 1) (by decide +kernel) (by decide +kernel) (by decide +kernel) (by decide +kernel) (by decide +kernel) (by decide +kernel) (by omega) hL ?_
  refine w_call (x := 88) (a := mX9_keep) (k := 8) (as := [aI (xs (i + 1))]) (st := [aI z]) h1 (by decide +kernel) (by decide +kernel) (wq_in (p := 1112) (by decide +kernel)) (by decide +kernel) rfl (by decide) (by decide +kernel) (by decide +kernel) (Nat.le_of_ble_eq_true rfl) (Nat.le_of_ble_eq_true rfl) (Nat.le_of_ble_eq_true rfl) (fun v S2 h2 => ?_)
  obtain ⟨rfl, h2⟩ := h2
  exact w_eq (off := 659) (by decide +kernel) (by decide) (nx S2 h2)
theorem w_op18 (h : Rr S) (hi : i + 6 ≤ L) (hL : L ≤ 3072) (nx : ∀ S2, Rr S2 → wpL b L xs 1436 i [] S2) : wpL b L xs 782 i [] S := by
  refine w_x (by decide +kernel) ?_
  refine w_arg (k := 1) (by decide +kernel) (by decide +kernel) (by decide +kernel) (by decide +kernel) (by decide +kernel) (by decide +kernel) (by omega) hL ?_
  refine w_call (x := 89) (a := mX8_on) (k := 7) (as := [aI (xs (i + 1))]) (st := []) (o_on (d := 0) h) (by decide +kernel) (by decide +kernel) (wq_in (p := 538) (by decide +kernel)) (by decide +kernel) rfl (by decide) (by decide +kernel) (by decide +kernel) (Nat.le_of_ble_eq_true rfl) (Nat.le_of_ble_eq_true rfl) (Nat.le_of_ble_eq_true rfl) (fun v S1 h1 => ?_)
  obtain ⟨z, rfl, h1⟩ := h1
  refine w_m (by decide +kernel) ?_
  refine w_arg (k := 1) (by decide +kernel) (by decide +kernel) (by decide +kernel) (by decide +kernel) (by decide +kernel) (by decide +kernel) (by omega) hL ?_
  refine w_call (x := 92) (a := mX9_on) (k := 8) (as := [aI (xs (i + 1))]) (st := [aI z]) h1 (by decide +kernel) (by decide +kernel) (wq_in (p := 1116) (by decide +kernel)) (by decide +kernel) rfl (by decide) (by decide +kernel) (by decide +kernel) (Nat.le_of_ble_eq_true rfl) (Nat.le_of_ble_eq_true rfl) (Nat.le_of_ble_eq_true rfl) (fun v S2 h2 => ?_)
  obtain ⟨rfl, h2⟩ := h2
  exact w_eq (off := 636) (by decide +kernel) (by decide) (nx S2 h2)
theorem w_op19 (h : Rr S) (hi : i + 6 ≤ L) (hL : L ≤ 3072) (nx : ∀ S2, Rr S2 → wpL b L xs 1436 i [] S2) : wpL b L xs 805 i [] S := by
  refine w_x (by decide +kernel) ?_
  refine w_arg (k := 1) (by decide +kernel) (by decide +kernel) (by decide +kernel) (by decide +kernel) (by decide +kernel) (by decide +kernel) (by omega) hL ?_
  refine w_call (x := 93) (a := mX8_cost) (k := 7) (as := [aI (xs (i + 1))]) (st := []) (o_cost (d := 0) h) (by decide +kernel) (by decide +kernel) (wq_in (p := 550) (by decide +kernel)) (by decide +kernel) rfl (by decide) (by decide +kernel) (by decide +kernel) (Nat.le_of_ble_eq_true rfl) (Nat.le_of_ble_eq_true rfl) (Nat.le_of_ble_eq_true rfl) (fun v S1 h1 => ?_)
  obtain ⟨z, rfl, h1⟩ := h1
  refine w_m (by decide +kernel) ?_
  refine w_arg (k := 1) (by decide +kernel) (by decide +kernel) (by decide +kernel) (by decide +kernel) (by decide +kernel) (by decide +kernel) (by omega) hL ?_
  refine w_call (x := 96) (a := mX9_cost) (k := 8) (as := [aI (xs (i + 1))]) (st := [aI z]) h1 (by decide +kernel) (by decide +kernel) (wq_in (p := 1120) (by decide +kernel)) (by decide +kernel) rfl (by decide) (by decide +kernel) (by decide +kernel) (Nat.le_of_ble_eq_true rfl) (Nat.le_of_ble_eq_true rfl) (Nat.le_of_ble_eq_true rfl) (fun v S2 h2 => ?_)
  obtain ⟨rfl, h2⟩ := h2
  exact w_eq (off := 613) (by decide +kernel) (by decide) (nx S2 h2)
theorem w_op20 (h : Rr S) (hi : i + 6 ≤ L) (hL : L ≤ 3072) (nx : ∀ S2, Rr S2 → wpL b L xs 1436 i [] S2) : wpL b L xs 828 i [] S := by
  refine w_x (by decide +kernel) ?_
  refine w_call (x := 97) (a := mX8_most) (k := 7) (as := []) (st := []) (o_most (d := 0) h) (by decide +kernel) (by decide +kernel) (wq_in (p := 554) (by decide +kernel)) (by decide +kernel) rfl (by decide) (by decide +kernel) (by decide +kernel) (Nat.le_of_ble_eq_true rfl) (Nat.le_of_ble_eq_true rfl) (Nat.le_of_ble_eq_true rfl) (fun v S1 h1 => ?_)
  obtain ⟨z, rfl, h1⟩ := h1
  refine w_m (by decide +kernel) ?_
  refine w_call (x := 101) (a := mX9_most) (k := 8) (as := []) (st := [aI z]) h1 (by decide +kernel) (by decide +kernel) (wq_in (p := 1124) (by decide +kernel)) (by decide +kernel) rfl (by decide) (by decide +kernel) (by decide +kernel) (Nat.le_of_ble_eq_true rfl) (Nat.le_of_ble_eq_true rfl) (Nat.le_of_ble_eq_true rfl) (fun v S2 h2 => ?_)
  obtain ⟨rfl, h2⟩ := h2
  exact w_eq (off := 600) (by decide +kernel) (by decide) (nx S2 h2)
theorem w_op21 (h : Rr S) (hi : i + 6 ≤ L) (hL : L ≤ 3072) (nx : ∀ S2, Rr S2 → wpL b L xs 1436 i [] S2) : wpL b L xs 841 i [] S := by
  refine w_x (by decide +kernel) ?_
  refine w_arg (k := 1) (by decide +kernel) (by decide +kernel) (by decide +kernel) (by decide +kernel) (by decide +kernel) (by decide +kernel) (by omega) hL ?_
  refine w_call (x := 102) (a := mX8_rule) (k := 7) (as := [aI (xs (i + 1))]) (st := []) (o_rule (d := 0) h) (by decide +kernel) (by decide +kernel) (wq_in (p := 561) (by decide +kernel)) (by decide +kernel) rfl (by decide) (by decide +kernel) (by decide +kernel) (Nat.le_of_ble_eq_true rfl) (Nat.le_of_ble_eq_true rfl) (Nat.le_of_ble_eq_true rfl) (fun v S1 h1 => ?_)
  obtain ⟨z, rfl, h1⟩ := h1
  refine w_m (by decide +kernel) ?_
  refine w_arg (k := 1) (by decide +kernel) (by decide +kernel) (by decide +kernel) (by decide +kernel) (by decide +kernel) (by decide +kernel) (by omega) hL ?_
  refine w_call (x := 105) (a := mX9_rule) (k := 8) (as := [aI (xs (i + 1))]) (st := [aI z]) h1 (by decide +kernel) (by decide +kernel) (wq_in (p := 1128) (by decide +kernel)) (by decide +kernel) rfl (by decide) (by decide +kernel) (by decide +kernel) (Nat.le_of_ble_eq_true rfl) (Nat.le_of_ble_eq_true rfl) (Nat.le_of_ble_eq_true rfl) (fun v S2 h2 => ?_)
  obtain ⟨rfl, h2⟩ := h2
  exact w_eq (off := 577) (by decide +kernel) (by decide) (nx S2 h2)
theorem w_op22 (h : Rr S) (hi : i + 6 ≤ L) (hL : L ≤ 3072) (nx : ∀ S2, Rr S2 → wpL b L xs 1436 i [] S2) : wpL b L xs 864 i [] S := by
  refine w_x (by decide +kernel) ?_
  refine w_arg (k := 1) (by decide +kernel) (by decide +kernel) (by decide +kernel) (by decide +kernel) (by decide +kernel) (by decide +kernel) (by omega) hL ?_
  refine w_arg (k := 2) (by decide +kernel) (by decide +kernel) (by decide +kernel) (by decide +kernel) (by decide +kernel) (by decide +kernel) (by omega) hL ?_
  refine w_call (x := 106) (a := mX8_plan) (k := 7) (as := [aI (xs (i + 1)), aI (xs (i + 2))]) (st := []) (o_plan (d := 0) h) (by decide +kernel) (by decide +kernel) (wq_in (p := 582) (by decide +kernel)) (by decide +kernel) rfl (by decide) (by decide +kernel) (by decide +kernel) (Nat.le_of_ble_eq_true rfl) (Nat.le_of_ble_eq_true rfl) (Nat.le_of_ble_eq_true rfl) (fun v S1 h1 => ?_)
  obtain ⟨z, rfl, h1⟩ := h1
  refine w_m (by decide +kernel) ?_
  refine w_arg (k := 1) (by decide +kernel) (by decide +kernel) (by decide +kernel) (by decide +kernel) (by decide +kernel) (by decide +kernel) (by omega) hL ?_
  refine w_arg (k := 2) (by decide +kernel) (by decide +kernel) (by decide +kernel) (by decide +kernel) (by decide +kernel) (by decide +kernel) (by omega) hL ?_
  refine w_call (x := 109) (a := mX9_plan) (k := 8) (as := [aI (xs (i + 1)), aI (xs (i + 2))]) (st := [aI z]) h1 (by decide +kernel) (by decide +kernel) (wq_in (p := 1144) (by decide +kernel)) (by decide +kernel) rfl (by decide) (by decide +kernel) (by decide +kernel) (Nat.le_of_ble_eq_true rfl) (Nat.le_of_ble_eq_true rfl) (Nat.le_of_ble_eq_true rfl) (fun v S2 h2 => ?_)
  obtain ⟨rfl, h2⟩ := h2
  exact w_eq (off := 544) (by decide +kernel) (by decide) (nx S2 h2)
theorem w_op23 (h : Rr S) (hi : i + 6 ≤ L) (hL : L ≤ 3072) (nx : ∀ S2, Rr S2 → wpL b L xs 1436 i [] S2) : wpL b L xs 897 i [] S := by
  refine w_x (by decide +kernel) ?_
  refine w_arg (k := 1) (by decide +kernel) (by decide +kernel) (by decide +kernel) (by decide +kernel) (by decide +kernel) (by decide +kernel) (by omega) hL ?_
  refine w_call (x := 110) (a := mX8_till) (k := 7) (as := [aI (xs (i + 1))]) (st := []) (o_till (d := 0) h) (by decide +kernel) (by decide +kernel) (wq_in (p := 606) (by decide +kernel)) (by decide +kernel) rfl (by decide) (by decide +kernel) (by decide +kernel) (Nat.le_of_ble_eq_true rfl) (Nat.le_of_ble_eq_true rfl) (Nat.le_of_ble_eq_true rfl) (fun v S1 h1 => ?_)
  obtain ⟨z, rfl, h1⟩ := h1
  refine w_m (by decide +kernel) ?_
  refine w_arg (k := 1) (by decide +kernel) (by decide +kernel) (by decide +kernel) (by decide +kernel) (by decide +kernel) (by decide +kernel) (by omega) hL ?_
  refine w_call (x := 113) (a := mX9_till) (k := 8) (as := [aI (xs (i + 1))]) (st := [aI z]) h1 (by decide +kernel) (by decide +kernel) (wq_in (p := 1156) (by decide +kernel)) (by decide +kernel) rfl (by decide) (by decide +kernel) (by decide +kernel) (Nat.le_of_ble_eq_true rfl) (Nat.le_of_ble_eq_true rfl) (Nat.le_of_ble_eq_true rfl) (fun v S2 h2 => ?_)
  obtain ⟨rfl, h2⟩ := h2
  exact w_eq (off := 521) (by decide +kernel) (by decide) (nx S2 h2)
theorem w_op24 (h : Rr S) (hi : i + 6 ≤ L) (hL : L ≤ 3072) (nx : ∀ S2, Rr S2 → wpL b L xs 1436 i [] S2) : wpL b L xs 920 i [] S := by
  refine w_x (by decide +kernel) ?_
  refine w_arg (k := 1) (by decide +kernel) (by decide +kernel) (by decide +kernel) (by decide +kernel) (by decide +kernel) (by decide +kernel) (by omega) hL ?_
  refine w_call (x := 114) (a := mX8_better) (k := 7) (as := [aI (xs (i + 1))]) (st := []) (o_better (d := 0) h) (by decide +kernel) (by decide +kernel) (wq_in (p := 619) (by decide +kernel)) (by decide +kernel) rfl (by decide) (by decide +kernel) (by decide +kernel) (Nat.le_of_ble_eq_true rfl) (Nat.le_of_ble_eq_true rfl) (Nat.le_of_ble_eq_true rfl) (fun v S1 h1 => ?_)
  obtain ⟨z, rfl, h1⟩ := h1
  refine w_m (by decide +kernel) ?_
  refine w_arg (k := 1) (by decide +kernel) (by decide +kernel) (by decide +kernel) (by decide +kernel) (by decide +kernel) (by decide +kernel) (by omega) hL ?_
  refine w_call (x := 117) (a := mX9_better) (k := 8) (as := [aI (xs (i + 1))]) (st := [aI z]) h1 (by decide +kernel) (by decide +kernel) (wq_in (p := 1164) (by decide +kernel)) (by decide +kernel) rfl (by decide) (by decide +kernel) (by decide +kernel) (Nat.le_of_ble_eq_true rfl) (Nat.le_of_ble_eq_true rfl) (Nat.le_of_ble_eq_true rfl) (fun v S2 h2 => ?_)
  obtain ⟨rfl, h2⟩ := h2
  exact w_eq (off := 498) (by decide +kernel) (by decide) (nx S2 h2)
theorem w_op25 (h : Rr S) (hi : i + 6 ≤ L) (hL : L ≤ 3072) (nx : ∀ S2, Rr S2 → wpL b L xs 1436 i [] S2) : wpL b L xs 943 i [] S := by
  refine w_x (by decide +kernel) ?_
  refine w_arg (k := 1) (by decide +kernel) (by decide +kernel) (by decide +kernel) (by decide +kernel) (by decide +kernel) (by decide +kernel) (by omega) hL ?_
  refine w_arg (k := 2) (by decide +kernel) (by decide +kernel) (by decide +kernel) (by decide +kernel) (by decide +kernel) (by decide +kernel) (by omega) hL ?_
  refine w_call (x := 118) (a := mX8_least) (k := 7) (as := [aI (xs (i + 1)), aI (xs (i + 2))]) (st := []) (o_least (d := 0) h) (by decide +kernel) (by decide +kernel) (wq_in (p := 627) (by decide +kernel)) (by decide +kernel) rfl (by decide) (by decide +kernel) (by decide +kernel) (Nat.le_of_ble_eq_true rfl) (Nat.le_of_ble_eq_true rfl) (Nat.le_of_ble_eq_true rfl) (fun v S1 h1 => ?_)
  obtain ⟨z, rfl, h1⟩ := h1
  refine w_m (by decide +kernel) ?_
  refine w_arg (k := 1) (by decide +kernel) (by decide +kernel) (by decide +kernel) (by decide +kernel) (by decide +kernel) (by decide +kernel) (by omega) hL ?_
  refine w_arg (k := 2) (by decide +kernel) (by decide +kernel) (by decide +kernel) (by decide +kernel) (by decide +kernel) (by decide +kernel) (by omega) hL ?_
  refine w_call (x := 121) (a := mX9_least) (k := 8) (as := [aI (xs (i + 1)), aI (xs (i + 2))]) (st := [aI z]) h1 (by decide +kernel) (by decide +kernel) (wq_in (p := 1172) (by decide +kernel)) (by decide +kernel) rfl (by decide) (by decide +kernel) (by decide +kernel) (Nat.le_of_ble_eq_true rfl) (Nat.le_of_ble_eq_true rfl) (Nat.le_of_ble_eq_true rfl) (fun v S2 h2 => ?_)
  obtain ⟨rfl, h2⟩ := h2
  exact w_eq (off := 465) (by decide +kernel) (by decide) (nx S2 h2)
theorem w_op26 (h : Rr S) (hi : i + 6 ≤ L) (hL : L ≤ 3072) (nx : ∀ S2, Rr S2 → wpL b L xs 1436 i [] S2) : wpL b L xs 976 i [] S := by
  refine w_x (by decide +kernel) ?_
  refine w_arg (k := 1) (by decide +kernel) (by decide +kernel) (by decide +kernel) (by decide +kernel) (by decide +kernel) (by decide +kernel) (by omega) hL ?_
  refine w_arg (k := 2) (by decide +kernel) (by decide +kernel) (by decide +kernel) (by decide +kernel) (by decide +kernel) (by decide +kernel) (by omega) hL ?_
  refine w_arg (k := 3) (by decide +kernel) (by decide +kernel) (by decide +kernel) (by decide +kernel) (by decide +kernel) (by decide +kernel) (by omega) hL ?_
  refine w_call (x := 122) (a := mX8_chain) (k := 7) (as := [aI (xs (i + 1)), aI (xs (i + 2)), aI (xs (i + 3))]) (st := []) (o_chain (d := 0) h) (by decide +kernel) (by decide +kernel) (wq_in (p := 633) (by decide +kernel)) (by decide +kernel) rfl (by decide) (by decide +kernel) (by decide +kernel) (Nat.le_of_ble_eq_true rfl) (Nat.le_of_ble_eq_true rfl) (Nat.le_of_ble_eq_true rfl) (fun v S1 h1 => ?_)
  obtain ⟨z, rfl, h1⟩ := h1
  refine w_m (by decide +kernel) ?_
  refine w_arg (k := 1) (by decide +kernel) (by decide +kernel) (by decide +kernel) (by decide +kernel) (by decide +kernel) (by decide +kernel) (by omega) hL ?_
  refine w_arg (k := 2) (by decide +kernel) (by decide +kernel) (by decide +kernel) (by decide +kernel) (by decide +kernel) (by decide +kernel) (by omega) hL ?_
  refine w_arg (k := 3) (by decide +kernel) (by decide +kernel) (by decide +kernel) (by decide +kernel) (by decide +kernel) (by decide +kernel) (by omega) hL ?_
  refine w_call (x := 125) (a := mX9_chain) (k := 8) (as := [aI (xs (i + 1)), aI (xs (i + 2)), aI (xs (i + 3))]) (st := [aI z]) h1 (by decide +kernel) (by decide +kernel) (wq_in (p := 1176) (by decide +kernel)) (by decide +kernel) rfl (by decide) (by decide +kernel) (by decide +kernel) (Nat.le_of_ble_eq_true rfl) (Nat.le_of_ble_eq_true rfl) (Nat.le_of_ble_eq_true rfl) (fun v S2 h2 => ?_)
  obtain ⟨rfl, h2⟩ := h2
  exact w_eq (off := 422) (by decide +kernel) (by decide) (nx S2 h2)
theorem w_op27 (h : Rr S) (hi : i + 6 ≤ L) (hL : L ≤ 3072) (nx : ∀ S2, Rr S2 → wpL b L xs 1436 i [] S2) : wpL b L xs 1019 i [] S := by
  refine w_x (by decide +kernel) ?_
  refine w_arg (k := 1) (by decide +kernel) (by decide +kernel) (by decide +kernel) (by decide +kernel) (by decide +kernel) (by decide +kernel) (by omega) hL ?_
  refine w_call (x := 126) (a := mX8_fits) (k := 7) (as := [aI (xs (i + 1))]) (st := []) (o_fits (d := 0) h) (by decide +kernel) (by decide +kernel) (wq_in (p := 637) (by decide +kernel)) (by decide +kernel) rfl (by decide) (by decide +kernel) (by decide +kernel) (Nat.le_of_ble_eq_true rfl) (Nat.le_of_ble_eq_true rfl) (Nat.le_of_ble_eq_true rfl) (fun v S1 h1 => ?_)
  obtain ⟨z, rfl, h1⟩ := h1
  refine w_m (by decide +kernel) ?_
  refine w_arg (k := 1) (by decide +kernel) (by decide +kernel) (by decide +kernel) (by decide +kernel) (by decide +kernel) (by decide +kernel) (by omega) hL ?_
  refine w_call (x := 129) (a := mX9_fits) (k := 8) (as := [aI (xs (i + 1))]) (st := [aI z]) h1 (by decide +kernel) (by decide +kernel) (wq_in (p := 1180) (by decide +kernel)) (by decide +kernel) rfl (by decide) (by decide +kernel) (by decide +kernel) (Nat.le_of_ble_eq_true rfl) (Nat.le_of_ble_eq_true rfl) (Nat.le_of_ble_eq_true rfl) (fun v S2 h2 => ?_)
  obtain ⟨rfl, h2⟩ := h2
  exact w_eq (off := 399) (by decide +kernel) (by decide) (nx S2 h2)
theorem w_op28 (h : Rr S) (hi : i + 6 ≤ L) (hL : L ≤ 3072) (nx : ∀ S2, Rr S2 → wpL b L xs 1436 i [] S2) : wpL b L xs 1042 i [] S := by
  refine w_x (by decide +kernel) ?_
  refine w_arg (k := 1) (by decide +kernel) (by decide +kernel) (by decide +kernel) (by decide +kernel) (by decide +kernel) (by decide +kernel) (by omega) hL ?_
  refine w_call (x := 130) (a := mX8_sure) (k := 7) (as := [aI (xs (i + 1))]) (st := []) (o_sure (d := 0) h) (by decide +kernel) (by decide +kernel) (wq_in (p := 656) (by decide +kernel)) (by decide +kernel) rfl (by decide) (by decide +kernel) (by decide +kernel) (Nat.le_of_ble_eq_true rfl) (Nat.le_of_ble_eq_true rfl) (Nat.le_of_ble_eq_true rfl) (fun v S1 h1 => ?_)
  obtain ⟨z, rfl, h1⟩ := h1
  refine w_m (by decide +kernel) ?_
  refine w_arg (k := 1) (by decide +kernel) (by decide +kernel) (by decide +kernel) (by decide +kernel) (by decide +kernel) (by decide +kernel) (by omega) hL ?_
  refine w_call (x := 133) (a := mX9_sure) (k := 8) (as := [aI (xs (i + 1))]) (st := [aI z]) h1 (by decide +kernel) (by decide +kernel) (wq_in (p := 1192) (by decide +kernel)) (by decide +kernel) rfl (by decide) (by decide +kernel) (by decide +kernel) (Nat.le_of_ble_eq_true rfl) (Nat.le_of_ble_eq_true rfl) (Nat.le_of_ble_eq_true rfl) (fun v S2 h2 => ?_)
  obtain ⟨rfl, h2⟩ := h2
  exact w_eq (off := 376) (by decide +kernel) (by decide) (nx S2 h2)
theorem w_op29 (h : Rr S) (hi : i + 6 ≤ L) (hL : L ≤ 3072) (nx : ∀ S2, Rr S2 → wpL b L xs 1436 i [] S2) : wpL b L xs 1065 i [] S := by
  refine w_x (by decide +kernel) ?_
  refine w_arg (k := 1) (by decide +kernel) (by decide +kernel) (by decide +kernel) (by decide +kernel) (by decide +kernel) (by decide +kernel) (by omega) hL ?_
  refine w_call (x := 134) (a := mX8_ask) (k := 7) (as := [aI (xs (i + 1))]) (st := []) (o_ask (d := 0) h) (by decide +kernel) (by decide +kernel) (wq_in (p := 664) (by decide +kernel)) (by decide +kernel) rfl (by decide) (by decide +kernel) (by decide +kernel) (Nat.le_of_ble_eq_true rfl) (Nat.le_of_ble_eq_true rfl) (Nat.le_of_ble_eq_true rfl) (fun v S1 h1 => ?_)
  obtain ⟨z, rfl, h1⟩ := h1
  refine w_m (by decide +kernel) ?_
  refine w_arg (k := 1) (by decide +kernel) (by decide +kernel) (by decide +kernel) (by decide +kernel) (by decide +kernel) (by decide +kernel) (by omega) hL ?_
  refine w_call (x := 137) (a := mX9_ask) (k := 8) (as := [aI (xs (i + 1))]) (st := [aI z]) h1 (by decide +kernel) (by decide +kernel) (wq_in (p := 1196) (by decide +kernel)) (by decide +kernel) rfl (by decide) (by decide +kernel) (by decide +kernel) (Nat.le_of_ble_eq_true rfl) (Nat.le_of_ble_eq_true rfl) (Nat.le_of_ble_eq_true rfl) (fun v S2 h2 => ?_)
  obtain ⟨rfl, h2⟩ := h2
  exact w_eq (off := 353) (by decide +kernel) (by decide) (nx S2 h2)
theorem w_op30 (h : Rr S) (hi : i + 6 ≤ L) (hL : L ≤ 3072) (nx : ∀ S2, Rr S2 → wpL b L xs 1436 i [] S2) : wpL b L xs 1088 i [] S := by
  refine w_x (by decide +kernel) ?_
  refine w_arg (k := 1) (by decide +kernel) (by decide +kernel) (by decide +kernel) (by decide +kernel) (by decide +kernel) (by decide +kernel) (by omega) hL ?_
  refine w_arg (k := 2) (by decide +kernel) (by decide +kernel) (by decide +kernel) (by decide +kernel) (by decide +kernel) (by decide +kernel) (by omega) hL ?_
  refine w_call (x := 138) (a := mX8_habits) (k := 7) (as := [aI (xs (i + 1)), aI (xs (i + 2))]) (st := []) (o_habits (d := 0) h) (by decide +kernel) (by decide +kernel) (wq_in (p := 668) (by decide +kernel)) (by decide +kernel) rfl (by decide) (by decide +kernel) (by decide +kernel) (Nat.le_of_ble_eq_true rfl) (Nat.le_of_ble_eq_true rfl) (Nat.le_of_ble_eq_true rfl) (fun v S1 h1 => ?_)
  obtain ⟨z, rfl, h1⟩ := h1
  refine w_m (by decide +kernel) ?_
  refine w_arg (k := 1) (by decide +kernel) (by decide +kernel) (by decide +kernel) (by decide +kernel) (by decide +kernel) (by decide +kernel) (by omega) hL ?_
  refine w_arg (k := 2) (by decide +kernel) (by decide +kernel) (by decide +kernel) (by decide +kernel) (by decide +kernel) (by decide +kernel) (by omega) hL ?_
  refine w_call (x := 141) (a := mX9_habits) (k := 8) (as := [aI (xs (i + 1)), aI (xs (i + 2))]) (st := [aI z]) h1 (by decide +kernel) (by decide +kernel) (wq_in (p := 1201) (by decide +kernel)) (by decide +kernel) rfl (by decide) (by decide +kernel) (by decide +kernel) (Nat.le_of_ble_eq_true rfl) (Nat.le_of_ble_eq_true rfl) (Nat.le_of_ble_eq_true rfl) (fun v S2 h2 => ?_)
  obtain ⟨rfl, h2⟩ := h2
  exact w_eq (off := 320) (by decide +kernel) (by decide) (nx S2 h2)
theorem w_op31 (h : Rr S) (hi : i + 6 ≤ L) (hL : L ≤ 3072) (nx : ∀ S2, Rr S2 → wpL b L xs 1436 i [] S2) : wpL b L xs 1121 i [] S := by
  refine w_x (by decide +kernel) ?_
  refine w_arg (k := 1) (by decide +kernel) (by decide +kernel) (by decide +kernel) (by decide +kernel) (by decide +kernel) (by decide +kernel) (by omega) hL ?_
  refine w_arg (k := 2) (by decide +kernel) (by decide +kernel) (by decide +kernel) (by decide +kernel) (by decide +kernel) (by decide +kernel) (by omega) hL ?_
  refine w_call (x := 142) (a := mX8_kinds) (k := 7) (as := [aI (xs (i + 1)), aI (xs (i + 2))]) (st := []) (o_kinds (d := 0) h) (by decide +kernel) (by decide +kernel) (wq_in (p := 680) (by decide +kernel)) (by decide +kernel) rfl (by decide) (by decide +kernel) (by decide +kernel) (Nat.le_of_ble_eq_true rfl) (Nat.le_of_ble_eq_true rfl) (Nat.le_of_ble_eq_true rfl) (fun v S1 h1 => ?_)
  obtain ⟨z, rfl, h1⟩ := h1
  refine w_m (by decide +kernel) ?_
  refine w_arg (k := 1) (by decide +kernel) (by decide +kernel) (by decide +kernel) (by decide +kernel) (by decide +kernel) (by decide +kernel) (by omega) hL ?_
  refine w_arg (k := 2) (by decide +kernel) (by decide +kernel) (by decide +kernel) (by decide +kernel) (by decide +kernel) (by decide +kernel) (by omega) hL ?_
  refine w_call (x := 145) (a := mX9_kinds) (k := 8) (as := [aI (xs (i + 1)), aI (xs (i + 2))]) (st := [aI z]) h1 (by decide +kernel) (by decide +kernel) (wq_in (p := 1213) (by decide +kernel)) (by decide +kernel) rfl (by decide) (by decide +kernel) (by decide +kernel) (Nat.le_of_ble_eq_true rfl) (Nat.le_of_ble_eq_true rfl) (Nat.le_of_ble_eq_true rfl) (fun v S2 h2 => ?_)
  obtain ⟨rfl, h2⟩ := h2
  exact w_eq (off := 287) (by decide +kernel) (by decide) (nx S2 h2)
theorem w_op32 (h : Rr S) (hi : i + 6 ≤ L) (hL : L ≤ 3072) (nx : ∀ S2, Rr S2 → wpL b L xs 1436 i [] S2) : wpL b L xs 1154 i [] S := by
  refine w_x (by decide +kernel) ?_
  refine w_arg (k := 1) (by decide +kernel) (by decide +kernel) (by decide +kernel) (by decide +kernel) (by decide +kernel) (by decide +kernel) (by omega) hL ?_
  refine w_arg (k := 2) (by decide +kernel) (by decide +kernel) (by decide +kernel) (by decide +kernel) (by decide +kernel) (by decide +kernel) (by omega) hL ?_
  refine w_call (x := 146) (a := mX8_test) (k := 7) (as := [aI (xs (i + 1)), aI (xs (i + 2))]) (st := []) (o_test (d := 0) h) (by decide +kernel) (by decide +kernel) (wq_in (p := 688) (by decide +kernel)) (by decide +kernel) rfl (by decide) (by decide +kernel) (by decide +kernel) (Nat.le_of_ble_eq_true rfl) (Nat.le_of_ble_eq_true rfl) (Nat.le_of_ble_eq_true rfl) (fun v S1 h1 => ?_)
  obtain ⟨z, rfl, h1⟩ := h1
  refine w_m (by decide +kernel) ?_
  refine w_arg (k := 1) (by decide +kernel) (by decide +kernel) (by decide +kernel) (by decide +kernel) (by decide +kernel) (by decide +kernel) (by omega) hL ?_
  refine w_arg (k := 2) (by decide +kernel) (by decide +kernel) (by decide +kernel) (by decide +kernel) (by decide +kernel) (by decide +kernel) (by omega) hL ?_
  refine w_call (x := 149) (a := mX9_test) (k := 8) (as := [aI (xs (i + 1)), aI (xs (i + 2))]) (st := [aI z]) h1 (by decide +kernel) (by decide +kernel) (wq_in (p := 1221) (by decide +kernel)) (by decide +kernel) rfl (by decide) (by decide +kernel) (by decide +kernel) (Nat.le_of_ble_eq_true rfl) (Nat.le_of_ble_eq_true rfl) (Nat.le_of_ble_eq_true rfl) (fun v S2 h2 => ?_)
  obtain ⟨rfl, h2⟩ := h2
  exact w_eq (off := 254) (by decide +kernel) (by decide) (nx S2 h2)
theorem w_op33 (h : Rr S) (hi : i + 6 ≤ L) (hL : L ≤ 3072) (nx : ∀ S2, Rr S2 → wpL b L xs 1436 i [] S2) : wpL b L xs 1187 i [] S := by
  refine w_x (by decide +kernel) ?_
  refine w_arg (k := 1) (by decide +kernel) (by decide +kernel) (by decide +kernel) (by decide +kernel) (by decide +kernel) (by decide +kernel) (by omega) hL ?_
  refine w_call (x := 150) (a := mX8_spare) (k := 7) (as := [aI (xs (i + 1))]) (st := []) (o_spare (d := 0) h) (by decide +kernel) (by decide +kernel) (wq_in (p := 700) (by decide +kernel)) (by decide +kernel) rfl (by decide) (by decide +kernel) (by decide +kernel) (Nat.le_of_ble_eq_true rfl) (Nat.le_of_ble_eq_true rfl) (Nat.le_of_ble_eq_true rfl) (fun v S1 h1 => ?_)
  obtain ⟨z, rfl, h1⟩ := h1
  refine w_m (by decide +kernel) ?_
  refine w_arg (k := 1) (by decide +kernel) (by decide +kernel) (by decide +kernel) (by decide +kernel) (by decide +kernel) (by decide +kernel) (by omega) hL ?_
  refine w_call (x := 153) (a := mX9_spare) (k := 8) (as := [aI (xs (i + 1))]) (st := [aI z]) h1 (by decide +kernel) (by decide +kernel) (wq_in (p := 1229) (by decide +kernel)) (by decide +kernel) rfl (by decide) (by decide +kernel) (by decide +kernel) (Nat.le_of_ble_eq_true rfl) (Nat.le_of_ble_eq_true rfl) (Nat.le_of_ble_eq_true rfl) (fun v S2 h2 => ?_)
  obtain ⟨rfl, h2⟩ := h2
  exact w_eq (off := 231) (by decide +kernel) (by decide) (nx S2 h2)
theorem w_op34 (h : Rr S) (hi : i + 6 ≤ L) (hL : L ≤ 3072) (nx : ∀ S2, Rr S2 → wpL b L xs 1436 i [] S2) : wpL b L xs 1210 i [] S := by
  refine w_x (by decide +kernel) ?_
  refine w_arg (k := 1) (by decide +kernel) (by decide +kernel) (by decide +kernel) (by decide +kernel) (by decide +kernel) (by decide +kernel) (by omega) hL ?_
  refine w_call (x := 154) (a := mX8_tempt) (k := 7) (as := [aI (xs (i + 1))]) (st := []) (o_tempt (d := 0) h) (by decide +kernel) (by decide +kernel) (wq_in (p := 708) (by decide +kernel)) (by decide +kernel) rfl (by decide) (by decide +kernel) (by decide +kernel) (Nat.le_of_ble_eq_true rfl) (Nat.le_of_ble_eq_true rfl) (Nat.le_of_ble_eq_true rfl) (fun v S1 h1 => ?_)
  obtain ⟨z, rfl, h1⟩ := h1
  refine w_m (by decide +kernel) ?_
  refine w_arg (k := 1) (by decide +kernel) (by decide +kernel) (by decide +kernel) (by decide +kernel) (by decide +kernel) (by decide +kernel) (by omega) hL ?_
  refine w_call (x := 157) (a := mX9_tempt) (k := 8) (as := [aI (xs (i + 1))]) (st := [aI z]) h1 (by decide +kernel) (by decide +kernel) (wq_in (p := 1237) (by decide +kernel)) (by decide +kernel) rfl (by decide) (by decide +kernel) (by decide +kernel) (Nat.le_of_ble_eq_true rfl) (Nat.le_of_ble_eq_true rfl) (Nat.le_of_ble_eq_true rfl) (fun v S2 h2 => ?_)
  obtain ⟨rfl, h2⟩ := h2
  exact w_eq (off := 208) (by decide +kernel) (by decide) (nx S2 h2)
theorem w_op35 (h : Rr S) (hi : i + 6 ≤ L) (hL : L ≤ 3072) (nx : ∀ S2, Rr S2 → wpL b L xs 1436 i [] S2) : wpL b L xs 1233 i [] S := by
  refine w_x (by decide +kernel) ?_
  refine w_arg (k := 1) (by decide +kernel) (by decide +kernel) (by decide +kernel) (by decide +kernel) (by decide +kernel) (by decide +kernel) (by omega) hL ?_
  refine w_arg (k := 2) (by decide +kernel) (by decide +kernel) (by decide +kernel) (by decide +kernel) (by decide +kernel) (by decide +kernel) (by omega) hL ?_
  refine w_call (x := 158) (a := mX8_odds) (k := 7) (as := [aI (xs (i + 1)), aI (xs (i + 2))]) (st := []) (o_odds (d := 0) h) (by decide +kernel) (by decide +kernel) (wq_in (p := 716) (by decide +kernel)) (by decide +kernel) rfl (by decide) (by decide +kernel) (by decide +kernel) (Nat.le_of_ble_eq_true rfl) (Nat.le_of_ble_eq_true rfl) (Nat.le_of_ble_eq_true rfl) (fun v S1 h1 => ?_)
  obtain ⟨z, rfl, h1⟩ := h1
  refine w_m (by decide +kernel) ?_
  refine w_arg (k := 1) (by decide +kernel) (by decide +kernel) (by decide +kernel) (by decide +kernel) (by decide +kernel) (by decide +kernel) (by omega) hL ?_
  refine w_arg (k := 2) (by decide +kernel) (by decide +kernel) (by decide +kernel) (by decide +kernel) (by decide +kernel) (by decide +kernel) (by omega) hL ?_
  refine w_call (x := 161) (a := mX9_odds) (k := 8) (as := [aI (xs (i + 1)), aI (xs (i + 2))]) (st := [aI z]) h1 (by decide +kernel) (by decide +kernel) (wq_in (p := 1253) (by decide +kernel)) (by decide +kernel) rfl (by decide) (by decide +kernel) (by decide +kernel) (Nat.le_of_ble_eq_true rfl) (Nat.le_of_ble_eq_true rfl) (Nat.le_of_ble_eq_true rfl) (fun v S2 h2 => ?_)
  obtain ⟨rfl, h2⟩ := h2
  exact w_eq (off := 175) (by decide +kernel) (by decide) (nx S2 h2)
theorem w_op36 (h : Rr S) (hi : i + 6 ≤ L) (hL : L ≤ 3072) (nx : ∀ S2, Rr S2 → wpL b L xs 1436 i [] S2) : wpL b L xs 1266 i [] S := by
  refine w_x (by decide +kernel) ?_
  refine w_arg (k := 1) (by decide +kernel) (by decide +kernel) (by decide +kernel) (by decide +kernel) (by decide +kernel) (by decide +kernel) (by omega) hL ?_
  refine w_call (x := 162) (a := mX8_mid) (k := 7) (as := [aI (xs (i + 1))]) (st := []) (o_mid (d := 0) h) (by decide +kernel) (by decide +kernel) (wq_in (p := 723) (by decide +kernel)) (by decide +kernel) rfl (by decide) (by decide +kernel) (by decide +kernel) (Nat.le_of_ble_eq_true rfl) (Nat.le_of_ble_eq_true rfl) (Nat.le_of_ble_eq_true rfl) (fun v S1 h1 => ?_)
  obtain ⟨z, rfl, h1⟩ := h1
  refine w_m (by decide +kernel) ?_
  refine w_arg (k := 1) (by decide +kernel) (by decide +kernel) (by decide +kernel) (by decide +kernel) (by decide +kernel) (by decide +kernel) (by omega) hL ?_
  refine w_call (x := 165) (a := mX9_mid) (k := 8) (as := [aI (xs (i + 1))]) (st := [aI z]) h1 (by decide +kernel) (by decide +kernel) (wq_in (p := 1258) (by decide +kernel)) (by decide +kernel) rfl (by decide) (by decide +kernel) (by decide +kernel) (Nat.le_of_ble_eq_true rfl) (Nat.le_of_ble_eq_true rfl) (Nat.le_of_ble_eq_true rfl) (fun v S2 h2 => ?_)
  obtain ⟨rfl, h2⟩ := h2
  exact w_eq (off := 152) (by decide +kernel) (by decide) (nx S2 h2)
theorem w_op37 (h : Rr S) (hi : i + 6 ≤ L) (hL : L ≤ 3072) (nx : ∀ S2, Rr S2 → wpL b L xs 1436 i [] S2) : wpL b L xs 1289 i [] S := by
  refine w_x (by decide +kernel) ?_
  refine w_arg (k := 1) (by decide +kernel) (by decide +kernel) (by decide +kernel) (by decide +kernel) (by decide +kernel) (by decide +kernel) (by omega) hL ?_
  refine w_arg (k := 2) (by decide +kernel) (by decide +kernel) (by decide +kernel) (by decide +kernel) (by decide +kernel) (by decide +kernel) (by omega) hL ?_
  refine w_call (x := 166) (a := mX8_lots) (k := 7) (as := [aI (xs (i + 1)), aI (xs (i + 2))]) (st := []) (o_lots (d := 0) h) (by decide +kernel) (by decide +kernel) (wq_in (p := 729) (by decide +kernel)) (by decide +kernel) rfl (by decide) (by decide +kernel) (by decide +kernel) (Nat.le_of_ble_eq_true rfl) (Nat.le_of_ble_eq_true rfl) (Nat.le_of_ble_eq_true rfl) (fun v S1 h1 => ?_)
  obtain ⟨z, rfl, h1⟩ := h1
  refine w_m (by decide +kernel) ?_
  refine w_arg (k := 1) (by decide +kernel) (by decide +kernel) (by decide +kernel) (by decide +kernel) (by decide +kernel) (by decide +kernel) (by omega) hL ?_
  refine w_arg (k := 2) (by decide +kernel) (by decide +kernel) (by decide +kernel) (by decide +kernel) (by decide +kernel) (by decide +kernel) (by omega) hL ?_
  refine w_call (x := 169) (a := mX9_lots) (k := 8) (as := [aI (xs (i + 1)), aI (xs (i + 2))]) (st := [aI z]) h1 (by decide +kernel) (by decide +kernel) (wq_in (p := 1262) (by decide +kernel)) (by decide +kernel) rfl (by decide) (by decide +kernel) (by decide +kernel) (Nat.le_of_ble_eq_true rfl) (Nat.le_of_ble_eq_true rfl) (Nat.le_of_ble_eq_true rfl) (fun v S2 h2 => ?_)
  obtain ⟨rfl, h2⟩ := h2
  exact w_eq (off := 119) (by decide +kernel) (by decide) (nx S2 h2)
theorem w_op38 (h : Rr S) (hi : i + 6 ≤ L) (hL : L ≤ 3072) (nx : ∀ S2, Rr S2 → wpL b L xs 1436 i [] S2) : wpL b L xs 1322 i [] S := by
  refine w_x (by decide +kernel) ?_
  refine w_call (x := 170) (a := mX8_asked) (k := 7) (as := []) (st := []) (o_asked (d := 0) h) (by decide +kernel) (by decide +kernel) (wq_in (p := 738) (by decide +kernel)) (by decide +kernel) rfl (by decide) (by decide +kernel) (by decide +kernel) (Nat.le_of_ble_eq_true rfl) (Nat.le_of_ble_eq_true rfl) (Nat.le_of_ble_eq_true rfl) (fun v S1 h1 => ?_)
  obtain ⟨z, rfl, h1⟩ := h1
  refine w_m (by decide +kernel) ?_
  refine w_call (x := 173) (a := mX9_asked) (k := 8) (as := []) (st := [aI z]) h1 (by decide +kernel) (by decide +kernel) (wq_in (p := 934) (by decide +kernel)) (by decide +kernel) rfl (by decide) (by decide +kernel) (by decide +kernel) (Nat.le_of_ble_eq_true rfl) (Nat.le_of_ble_eq_true rfl) (Nat.le_of_ble_eq_true rfl) (fun v S2 h2 => ?_)
  obtain ⟨rfl, h2⟩ := h2
  exact w_eq (off := 106) (by decide +kernel) (by decide) (nx S2 h2)
theorem w_op39 (h : Rr S) (hi : i + 6 ≤ L) (hL : L ≤ 3072) (nx : ∀ S2, Rr S2 → wpL b L xs 1436 i [] S2) : wpL b L xs 1335 i [] S := by
  refine w_x (by decide +kernel) ?_
  refine w_call (x := 174) (a := mX8_upper) (k := 7) (as := []) (st := []) (o_upper (d := 0) h) (by decide +kernel) (by decide +kernel) (wq_in (p := 742) (by decide +kernel)) (by decide +kernel) rfl (by decide) (by decide +kernel) (by decide +kernel) (Nat.le_of_ble_eq_true rfl) (Nat.le_of_ble_eq_true rfl) (Nat.le_of_ble_eq_true rfl) (fun v S1 h1 => ?_)
  obtain ⟨z, rfl, h1⟩ := h1
  refine w_m (by decide +kernel) ?_
  refine w_call (x := 178) (a := mX9_upper) (k := 8) (as := []) (st := [aL z]) h1 (by decide +kernel) (by decide +kernel) (wq_in (p := 938) (by decide +kernel)) (by decide +kernel) rfl (by decide) (by decide +kernel) (by decide +kernel) (Nat.le_of_ble_eq_true rfl) (Nat.le_of_ble_eq_true rfl) (Nat.le_of_ble_eq_true rfl) (fun v S2 h2 => ?_)
  obtain ⟨rfl, h2⟩ := h2
  exact w_leq (off := 92) (by decide +kernel) (by decide +kernel) (by decide) (nx S2 h2)
theorem w_op40 (h : Rr S) (hi : i + 6 ≤ L) (hL : L ≤ 3072) (nx : ∀ S2, Rr S2 → wpL b L xs 1436 i [] S2) : wpL b L xs 1349 i [] S := by
  refine w_x (by decide +kernel) ?_
  refine w_call (x := 179) (a := mX8_lower) (k := 7) (as := []) (st := []) (o_lower (d := 0) h) (by decide +kernel) (by decide +kernel) (wq_in (p := 746) (by decide +kernel)) (by decide +kernel) rfl (by decide) (by decide +kernel) (by decide +kernel) (Nat.le_of_ble_eq_true rfl) (Nat.le_of_ble_eq_true rfl) (Nat.le_of_ble_eq_true rfl) (fun v S1 h1 => ?_)
  obtain ⟨z, rfl, h1⟩ := h1
  refine w_m (by decide +kernel) ?_
  refine w_call (x := 182) (a := mX9_lower) (k := 8) (as := []) (st := [aL z]) h1 (by decide +kernel) (by decide +kernel) (wq_in (p := 942) (by decide +kernel)) (by decide +kernel) rfl (by decide) (by decide +kernel) (by decide +kernel) (Nat.le_of_ble_eq_true rfl) (Nat.le_of_ble_eq_true rfl) (Nat.le_of_ble_eq_true rfl) (fun v S2 h2 => ?_)
  obtain ⟨rfl, h2⟩ := h2
  exact w_leq (off := 78) (by decide +kernel) (by decide +kernel) (by decide) (nx S2 h2)
theorem w_op41 (h : Rr S) (hi : i + 6 ≤ L) (hL : L ≤ 3072) (nx : ∀ S2, Rr S2 → wpL b L xs 1436 i [] S2) : wpL b L xs 1363 i [] S := by
  refine w_x (by decide +kernel) ?_
  refine w_arg (k := 1) (by decide +kernel) (by decide +kernel) (by decide +kernel) (by decide +kernel) (by decide +kernel) (by decide +kernel) (by omega) hL ?_
  refine w_call (x := 183) (a := mX8_count) (k := 7) (as := [aI (xs (i + 1))]) (st := []) (o_count (d := 0) h) (by decide +kernel) (by decide +kernel) (wq_in (p := 750) (by decide +kernel)) (by decide +kernel) rfl (by decide) (by decide +kernel) (by decide +kernel) (Nat.le_of_ble_eq_true rfl) (Nat.le_of_ble_eq_true rfl) (Nat.le_of_ble_eq_true rfl) (fun v S1 h1 => ?_)
  obtain ⟨z, rfl, h1⟩ := h1
  refine w_m (by decide +kernel) ?_
  refine w_arg (k := 1) (by decide +kernel) (by decide +kernel) (by decide +kernel) (by decide +kernel) (by decide +kernel) (by decide +kernel) (by omega) hL ?_
  refine w_call (x := 186) (a := mX9_count) (k := 8) (as := [aI (xs (i + 1))]) (st := [aI z]) h1 (by decide +kernel) (by decide +kernel) (wq_in (p := 1271) (by decide +kernel)) (by decide +kernel) rfl (by decide) (by decide +kernel) (by decide +kernel) (Nat.le_of_ble_eq_true rfl) (Nat.le_of_ble_eq_true rfl) (Nat.le_of_ble_eq_true rfl) (fun v S2 h2 => ?_)
  obtain ⟨rfl, h2⟩ := h2
  exact w_eq (off := 55) (by decide +kernel) (by decide) (nx S2 h2)
theorem w_op42 (h : Rr S) (hi : i + 6 ≤ L) (hL : L ≤ 3072) (nx : ∀ S2, Rr S2 → wpL b L xs 1436 i [] S2) : wpL b L xs 1386 i [] S := by
  refine w_x (by decide +kernel) ?_
  refine w_call (x := 187) (a := mX8_finding) (k := 7) (as := []) (st := []) (o_finding (d := 0) h) (by decide +kernel) (by decide +kernel) (wq_in (p := 777) (by decide +kernel)) (by decide +kernel) rfl (by decide) (by decide +kernel) (by decide +kernel) (Nat.le_of_ble_eq_true rfl) (Nat.le_of_ble_eq_true rfl) (Nat.le_of_ble_eq_true rfl) (fun v S1 h1 => ?_)
  obtain ⟨z, rfl, h1⟩ := h1
  refine w_m (by decide +kernel) ?_
  refine w_call (x := 190) (a := mX9_finding) (k := 8) (as := []) (st := [aI z]) h1 (by decide +kernel) (by decide +kernel) (wq_in (p := 923) (by decide +kernel)) (by decide +kernel) rfl (by decide) (by decide +kernel) (by decide +kernel) (Nat.le_of_ble_eq_true rfl) (Nat.le_of_ble_eq_true rfl) (Nat.le_of_ble_eq_true rfl) (fun v S2 h2 => ?_)
  obtain ⟨rfl, h2⟩ := h2
  exact w_eq (off := 42) (by decide +kernel) (by decide) (nx S2 h2)
theorem w_op43 (h : Rr S) (hi : i + 6 ≤ L) (hL : L ≤ 3072) (nx : ∀ S2, Rr S2 → wpL b L xs 1436 i [] S2) : wpL b L xs 1399 i [] S := by
  refine w_x (by decide +kernel) ?_
  refine w_arg (k := 1) (by decide +kernel) (by decide +kernel) (by decide +kernel) (by decide +kernel) (by decide +kernel) (by decide +kernel) (by omega) hL ?_
  refine w_call (x := 191) (a := mX8_findings) (k := 7) (as := [aI (xs (i + 1))]) (st := []) (o_findings (d := 0) h) (by decide +kernel) (by decide +kernel) (wq_in (p := 781) (by decide +kernel)) (by decide +kernel) rfl (by decide) (by decide +kernel) (by decide +kernel) (Nat.le_of_ble_eq_true rfl) (Nat.le_of_ble_eq_true rfl) (Nat.le_of_ble_eq_true rfl) (fun v S1 h1 => ?_)
  obtain ⟨z, rfl, h1⟩ := h1
  refine w_m (by decide +kernel) ?_
  refine w_arg (k := 1) (by decide +kernel) (by decide +kernel) (by decide +kernel) (by decide +kernel) (by decide +kernel) (by decide +kernel) (by omega) hL ?_
  refine w_call (x := 194) (a := mX9_findings) (k := 8) (as := [aI (xs (i + 1))]) (st := [aI z]) h1 (by decide +kernel) (by decide +kernel) (wq_in (p := 927) (by decide +kernel)) (by decide +kernel) rfl (by decide) (by decide +kernel) (by decide +kernel) (Nat.le_of_ble_eq_true rfl) (Nat.le_of_ble_eq_true rfl) (Nat.le_of_ble_eq_true rfl) (fun v S2 h2 => ?_)
  obtain ⟨rfl, h2⟩ := h2
  exact w_eq (off := 19) (by decide +kernel) (by decide) (nx S2 h2)
theorem w_op44 (h : Rr S) (hi : i + 6 ≤ L) (hL : L ≤ 3072) (nx : ∀ S2, Rr S2 → wpL b L xs 1436 i [] S2) : wpL b L xs 1422 i [] S := by
  refine w_x (by decide +kernel) ?_
  refine w_call (x := 195) (a := mX8_digest) (k := 7) (as := []) (st := []) (o_digest (d := 0) h) (by decide +kernel) (by decide +kernel) (wq_in (p := 785) (by decide +kernel)) (by decide +kernel) rfl (by decide) (by decide +kernel) (by decide +kernel) (Nat.le_of_ble_eq_true rfl) (Nat.le_of_ble_eq_true rfl) (Nat.le_of_ble_eq_true rfl) (fun v S1 h1 => ?_)
  obtain ⟨z, rfl, h1⟩ := h1
  refine w_m (by decide +kernel) ?_
  refine w_call (x := 198) (a := mX9_digest) (k := 8) (as := []) (st := [aL z]) h1 (by decide +kernel) (by decide +kernel) (wq_in (p := 1279) (by decide +kernel)) (by decide +kernel) rfl (by decide) (by decide +kernel) (by decide +kernel) (Nat.le_of_ble_eq_true rfl) (Nat.le_of_ble_eq_true rfl) (Nat.le_of_ble_eq_true rfl) (fun v S2 h2 => ?_)
  obtain ⟨rfl, h2⟩ := h2
  exact w_leq (off := 5) (by decide +kernel) (by decide +kernel) (by decide) (nx S2 h2)
theorem w_sw {x : Int32} (h : Rr S) (hi : i + 6 ≤ L) (hL : L ≤ 3072) (nx : ∀ S2, Rr S2 → wpL b L xs 1436 i [] S2) : wpL b L xs 33 i [aI x] S := by
  have hdg : decode code 33 = .ok (.tableswitch 1403 0 44 #[195, 228, 271, 304, 327, 390, 413, 446, 489, 512, 535, 568, 601, 634, 657, 680, 703, 726, 749, 772, 795, 808, 831, 864, 887, 910, 943, 986, 1009, 1032, 1055, 1088, 1121, 1154, 1177, 1200, 1233, 1256, 1289, 1302, 1316, 1330, 1353, 1366, 1389], 195) := by decide +kernel
  by_cases c : x.toInt < 0 ∨ 44 < x.toInt
  · intro p l e s m below meth c0 H D cy ad ls C0 sx hA hl
    exact lv_tableOut (tgt := 1436) C0.1 C0.2.1 hdg c (by decide) (nx S h p l e s m below meth c0 H D cy ad ls C0 sx hA hl)
  · have key : ∀ (n : Nat) (t : Nat) (off : Int), x.toInt = (n : Int) → n < 45 → (#[195, 228, 271, 304, 327, 390, 413, 446, 489, 512, 535, 568, 601, 634, 657, 680, 703, 726, 749, 772, 795, 808, 831, 864, 887, 910, 943, 986, 1009, 1032, 1055, 1088, 1121, 1154, 1177, 1200, 1233, 1256, 1289, 1302, 1316, 1330, 1353, 1366, 1389] : Array Int)[n]? = some off → ((33 : Nat) : Int) + off = (t : Int) → wpL b L xs t i [] S → wpL b L xs 33 i [aI x] S := by
      intro n t off hx hn ho ht kk p l e s m below meth c0 H D cy ad ls C0 sx hA hl
      refine lv_tableIn (off := off) (tgt := t) C0.1 C0.2.1 hdg (by omega) (by omega) ?_ ht (kk p l e s m below meth c0 H D cy ad ls C0 sx hA hl)
      have e0 : (x.toInt - 0).toNat = n := by omega
      rw [e0]
      exact ho
    obtain ⟨n, hn⟩ : ∃ n : Nat, x.toInt = (n : Int) := ⟨x.toInt.toNat, by omega⟩
    have hn2 : n < 45 := by omega
    rcases (show n = 0 ∨ n = 1 ∨ n = 2 ∨ n = 3 ∨ n = 4 ∨ n = 5 ∨ n = 6 ∨ n = 7 ∨ n = 8 ∨ n = 9 ∨ n = 10 ∨ n = 11 ∨ n = 12 ∨ n = 13 ∨ n = 14 ∨ n = 15 ∨ n = 16 ∨ n = 17 ∨ n = 18 ∨ n = 19 ∨ n = 20 ∨ n = 21 ∨ n = 22 ∨ n = 23 ∨ n = 24 ∨ n = 25 ∨ n = 26 ∨ n = 27 ∨ n = 28 ∨ n = 29 ∨ n = 30 ∨ n = 31 ∨ n = 32 ∨ n = 33 ∨ n = 34 ∨ n = 35 ∨ n = 36 ∨ n = 37 ∨ n = 38 ∨ n = 39 ∨ n = 40 ∨ n = 41 ∨ n = 42 ∨ n = 43 ∨ n = 44 by omega) with rfl | rfl | rfl | rfl | rfl | rfl | rfl | rfl | rfl | rfl | rfl | rfl | rfl | rfl | rfl | rfl | rfl | rfl | rfl | rfl | rfl | rfl | rfl | rfl | rfl | rfl | rfl | rfl | rfl | rfl | rfl | rfl | rfl | rfl | rfl | rfl | rfl | rfl | rfl | rfl | rfl | rfl | rfl | rfl | rfl
    · exact key 0 228 195 hn (by decide) rfl (by decide) (w_op0 h hi hL nx)
    · exact key 1 261 228 hn (by decide) rfl (by decide) (w_op1 h hi hL nx)
    · exact key 2 304 271 hn (by decide) rfl (by decide) (w_op2 h hi hL nx)
    · exact key 3 337 304 hn (by decide) rfl (by decide) (w_op3 h hi hL nx)
    · exact key 4 360 327 hn (by decide) rfl (by decide) (w_op4 h hi hL nx)
    · exact key 5 423 390 hn (by decide) rfl (by decide) (w_op5 h hi hL nx)
    · exact key 6 446 413 hn (by decide) rfl (by decide) (w_op6 h hi hL nx)
    · exact key 7 479 446 hn (by decide) rfl (by decide) (w_op7 h hi hL nx)
    · exact key 8 522 489 hn (by decide) rfl (by decide) (w_op8 h hi hL nx)
    · exact key 9 545 512 hn (by decide) rfl (by decide) (w_op9 h hi hL nx)
    · exact key 10 568 535 hn (by decide) rfl (by decide) (w_op10 h hi hL nx)
    · exact key 11 601 568 hn (by decide) rfl (by decide) (w_op11 h hi hL nx)
    · exact key 12 634 601 hn (by decide) rfl (by decide) (w_op12 h hi hL nx)
    · exact key 13 667 634 hn (by decide) rfl (by decide) (w_op13 h hi hL nx)
    · exact key 14 690 657 hn (by decide) rfl (by decide) (w_op14 h hi hL nx)
    · exact key 15 713 680 hn (by decide) rfl (by decide) (w_op15 h hi hL nx)
    · exact key 16 736 703 hn (by decide) rfl (by decide) (w_op16 h hi hL nx)
    · exact key 17 759 726 hn (by decide) rfl (by decide) (w_op17 h hi hL nx)
    · exact key 18 782 749 hn (by decide) rfl (by decide) (w_op18 h hi hL nx)
    · exact key 19 805 772 hn (by decide) rfl (by decide) (w_op19 h hi hL nx)
    · exact key 20 828 795 hn (by decide) rfl (by decide) (w_op20 h hi hL nx)
    · exact key 21 841 808 hn (by decide) rfl (by decide) (w_op21 h hi hL nx)
    · exact key 22 864 831 hn (by decide) rfl (by decide) (w_op22 h hi hL nx)
    · exact key 23 897 864 hn (by decide) rfl (by decide) (w_op23 h hi hL nx)
    · exact key 24 920 887 hn (by decide) rfl (by decide) (w_op24 h hi hL nx)
    · exact key 25 943 910 hn (by decide) rfl (by decide) (w_op25 h hi hL nx)
    · exact key 26 976 943 hn (by decide) rfl (by decide) (w_op26 h hi hL nx)
    · exact key 27 1019 986 hn (by decide) rfl (by decide) (w_op27 h hi hL nx)
    · exact key 28 1042 1009 hn (by decide) rfl (by decide) (w_op28 h hi hL nx)
    · exact key 29 1065 1032 hn (by decide) rfl (by decide) (w_op29 h hi hL nx)
    · exact key 30 1088 1055 hn (by decide) rfl (by decide) (w_op30 h hi hL nx)
    · exact key 31 1121 1088 hn (by decide) rfl (by decide) (w_op31 h hi hL nx)
    · exact key 32 1154 1121 hn (by decide) rfl (by decide) (w_op32 h hi hL nx)
    · exact key 33 1187 1154 hn (by decide) rfl (by decide) (w_op33 h hi hL nx)
    · exact key 34 1210 1177 hn (by decide) rfl (by decide) (w_op34 h hi hL nx)
    · exact key 35 1233 1200 hn (by decide) rfl (by decide) (w_op35 h hi hL nx)
    · exact key 36 1266 1233 hn (by decide) rfl (by decide) (w_op36 h hi hL nx)
    · exact key 37 1289 1256 hn (by decide) rfl (by decide) (w_op37 h hi hL nx)
    · exact key 38 1322 1289 hn (by decide) rfl (by decide) (w_op38 h hi hL nx)
    · exact key 39 1335 1302 hn (by decide) rfl (by decide) (w_op39 h hi hL nx)
    · exact key 40 1349 1316 hn (by decide) rfl (by decide) (w_op40 h hi hL nx)
    · exact key 41 1363 1330 hn (by decide) rfl (by decide) (w_op41 h hi hL nx)
    · exact key 42 1386 1353 hn (by decide) rfl (by decide) (w_op42 h hi hL nx)
    · exact key 43 1399 1366 hn (by decide) rfl (by decide) (w_op43 h hi hL nx)
    · exact key 44 1422 1389 hn (by decide) rfl (by decide) (w_op44 h hi hL nx)
theorem w_loop (hL : L ≤ 3072) : ∀ (n i : Nat) (S : MS), i ≤ L + 6 → L + 1 ≤ i + n → Rr S → wpL b L xs 18 i [] S := by
  intro n
  induction n with
  | zero =>
    intro i S hi hn h p l e s m below meth c H D cy ad ls C0 sx hA hl
    have hbl := C0.2.2.2.2.2.2.2.1
    refine lv_iload_n C0.1 C0.2.1 (show decode code 18 = .ok (.iload_n 3, 1) by decide +kernel) rfl (lv_at hl 3 rfl) ?_
    refine lv_aload_n C0.1 C0.2.1 (show decode code 19 = .ok (.aload_n 0, 1) by decide +kernel) rfl (lv_at hl 0 rfl) ?_
    refine va_slen C0.1 C0.2.1 C0.2.2.2.2.2.2.1 hbl (sl_of (H := H) hA hbl) sx.2.2 (show decode code 20 = .ok (.arraylength, 1) by decide +kernel) ?_
    refine lv_bipush (v := nI 6) C0.1 C0.2.1 (show decode code 21 = .ok (.bipush 6, 2) by decide +kernel) (by decide +kernel) ?_
    refine lv_isub C0.1 C0.2.1 (show decode code 23 = .ok (.isub, 1) by decide +kernel) ?_
    refine lv_icmp_gt (off := 1418) (tgt := 1442) C0.1 C0.2.1 (show decode code 24 = .ok (.if_icmp .gt 1418, 3) by decide +kernel) (by decide) (fun _ => w_done p l e s m below meth c H D cy ad ls C0 sx hA hl) (fun c0 => ?_)
    exfalso
    apply c0
    show nI L - nI 6 < nI i
    rw [Int32.lt_iff_toInt_lt, pk_sub_toInt (by omega) (by decide), nI_toInt (by omega)]
    omega
  | succ n ih =>
    intro i S hi hn h p l e s m below meth c H D cy ad ls C0 sx hA hl
    have hbl := C0.2.2.2.2.2.2.2.1
    refine lv_iload_n C0.1 C0.2.1 (show decode code 18 = .ok (.iload_n 3, 1) by decide +kernel) rfl (lv_at hl 3 rfl) ?_
    refine lv_aload_n C0.1 C0.2.1 (show decode code 19 = .ok (.aload_n 0, 1) by decide +kernel) rfl (lv_at hl 0 rfl) ?_
    refine va_slen C0.1 C0.2.1 C0.2.2.2.2.2.2.1 hbl (sl_of (H := H) hA hbl) sx.2.2 (show decode code 20 = .ok (.arraylength, 1) by decide +kernel) ?_
    refine lv_bipush (v := nI 6) C0.1 C0.2.1 (show decode code 21 = .ok (.bipush 6, 2) by decide +kernel) (by decide +kernel) ?_
    refine lv_isub C0.1 C0.2.1 (show decode code 23 = .ok (.isub, 1) by decide +kernel) ?_
    refine lv_icmp_gt (off := 1418) (tgt := 1442) C0.1 C0.2.1 (show decode code 24 = .ok (.if_icmp .gt 1418, 3) by decide +kernel) (by decide) (fun _ => w_done p l e s m below meth c H D cy ad ls C0 sx hA hl) (fun c0 => ?_)
    have hi6 : i + 6 ≤ L := by
      rcases Nat.lt_or_ge L (i + 6) with q | q
      · exfalso
        apply c0
        show nI L - nI 6 < nI i
        rw [Int32.lt_iff_toInt_lt, pk_sub_toInt (by omega) (by decide), nI_toInt (by omega)]
        omega
      · exact q
    refine lv_aload_n C0.1 C0.2.1 (show decode code 27 = .ok (.aload_n 0, 1) by decide +kernel) rfl (lv_at hl 0 rfl) ?_
    refine lv_iload_n C0.1 C0.2.1 (show decode code 28 = .ok (.iload_n 3, 1) by decide +kernel) rfl (lv_at hl 3 rfl) ?_
    refine va_sld C0.1 C0.2.1 C0.2.2.2.2.2.2.1 hbl (sl_of (H := H) hA hbl) sx.2.2 (i_in (show i < L by omega) (by omega)) (show decode code 29 = .ok (.iaload, 1) by decide +kernel) ?_
    refine lv_bipush (v := nI 63) C0.1 C0.2.1 (show decode code 30 = .ok (.bipush 63, 2) by decide +kernel) (by decide +kernel) ?_
    refine lv_iand C0.1 C0.2.1 (show decode code 32 = .ok (.iand, 1) by decide +kernel) ?_
    exact w_sw h hi6 hL (fun S2 h2 => w_next hi6 (ih (i + 6) S2 (by omega) (by omega) h2)) p l e s m below meth c H D cy ad ls C0 sx hA hl
end
