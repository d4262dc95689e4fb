-- PART 14: numbers, bits, years in plain mathematics
theorem pl_0 : plainName (RN 0) = true := by decide +kernel
theorem pl_1 : plainName (RN 1) = true := by decide +kernel
theorem pl_2 : plainName (RN 2) = true := by decide +kernel
theorem pl_3 : plainName (RN 3) = true := by decide +kernel
theorem pl_4 : plainName (RN 4) = true := by decide +kernel
theorem pl_5 : plainName (RN 5) = true := by decide +kernel
theorem pl_6 : plainName (RN 6) = true := by decide +kernel
theorem pl_7 : plainName (RN 7) = true := by decide +kernel
theorem pl_8 : plainName (RN 8) = true := by decide +kernel
theorem pl_9 : plainName (RN 9) = true := by decide +kernel
theorem pl_10 : plainName (RN 10) = true := by decide +kernel
theorem pl_13 : plainName (RN 13) = true := by decide +kernel
theorem bz0 : (nI 0 = 0 ∨ nI 0 = 1) = True := by decide +kernel
theorem bz1 : (nI 1 = 0 ∨ nI 1 = 1) = True := by decide +kernel
theorem nz1 : (nI 1 = 0) = False := by decide +kernel
theorem nz2 : (nI 2 = 0) = False := by decide +kernel
theorem nz3 : (nI 3 = 0) = False := by decide +kernel
theorem nz4 : (nI 4 = 0) = False := by decide +kernel
theorem nz5 : (nI 5 = 0) = False := by decide +kernel
theorem nz7 : (nI 7 = 0) = False := by decide +kernel
theorem nz8 : (nI 8 = 0) = False := by decide +kernel
theorem no1 : (nI 1 = 1) = True := by decide +kernel
theorem no0 : (nI 0 = 0) = True := by decide +kernel
theorem n0 : (0 : Int32) = nI 0 := by decide +kernel
theorem n1 : (1 : Int32) = nI 1 := by decide +kernel
/-- what holds of all small numbers, by trying them -/
theorem fin1 {n : Nat} {p : Nat → Prop} [∀ a, Decidable (p a)] (h : (List.range n).all (fun a => decide (p a)) = true) {a : Nat} (ha : a < n) : p a := of_decide_eq_true (List.all_eq_true.mp h a (List.mem_range.mpr ha))
theorem fin2 {n m : Nat} {p : Nat → Nat → Prop} [∀ a b, Decidable (p a b)] (h : (List.range n).all (fun a => (List.range m).all (fun b => decide (p a b))) = true) {a b : Nat} (ha : a < n) (hb : b < m) : p a b := of_decide_eq_true (List.all_eq_true.mp (List.all_eq_true.mp h a (List.mem_range.mpr ha)) b (List.mem_range.mpr hb))
theorem fin3 {n m l : Nat} {p : Nat → Nat → Nat → Prop} [∀ a b c, Decidable (p a b c)] (h : (List.range n).all (fun a => (List.range m).all (fun b => (List.range l).all (fun c => decide (p a b c)))) = true) {a b c : Nat} (ha : a < n) (hb : b < m) (hc : c < l) : p a b c := of_decide_eq_true (List.all_eq_true.mp (List.all_eq_true.mp (List.all_eq_true.mp h a (List.mem_range.mpr ha)) b (List.mem_range.mpr hb)) c (List.mem_range.mpr hc))
theorem i_le {a b : Nat} (ha : a < 2 ^ 30) (hb : b < 2 ^ 30) : (nI a ≤ nI b) = (a ≤ b) := propext (nI_leI (by omega) (by omega))
theorem i_lt {a b : Nat} (ha : a < 2 ^ 30) (hb : b < 2 ^ 30) : (nI a < nI b) = (a < b) := propext (nI_ltI (by omega) (by omega))
theorem i_eq {a b : Nat} (ha : a < 2 ^ 30) (hb : b < 2 ^ 30) : (nI a = nI b) = (a = b) := propext (nI_eq (by omega) (by omega))
theorem i_eq0 {a : Nat} (ha : a < 2 ^ 30) : (nI a = 0) = (a = 0) := by rw [n0]; exact i_eq ha (by decide)
theorem i_in {a n : Nat} (h : a < n) (hn : n < 2 ^ 30) : vp_in (nI a) n := vp_in_nI h (by omega)
theorem i_cl {a : Nat} (h : a < 2 ^ 30) : (nI a).toNatClampNeg = a := nI_clamp (by omega)
theorem i_rem {a b : Nat} (ha : a < 2 ^ 30) (h0 : 0 < b) (hb : b < 2 ^ 30) : nI a - nI a / nI b * nI b = nI (a % b) := pk_rem (by omega) h0 (by omega)
theorem i_div {a b : Nat} (ha : a < 2 ^ 30) (h0 : 0 < b) (hb : b < 2 ^ 30) : nI a / nI b = nI (a / b) := pk_div (by omega) h0 (by omega)
theorem i_ne0 {b : Nat} (h0 : 0 < b) (hb : b < 2 ^ 30) : ¬ nI b = 0 := nI_ne0 h0 (by omega)
/-- the greater of 0 and a difference -/
theorem i_max0 {e h : Nat} (he : e < 2 ^ 29) (hh : h < 2 ^ 29) : (if nI 0 < nI e - nI h then nI e - nI h else nI 0) = nI (e - h) := by
  rcases Nat.lt_or_ge h e with q | q
  · rw [pk_sub (Nat.le_of_lt q), if_pos (by rw [i_lt (by omega) (by omega)]; omega)]
  · rw [show e - h = 0 by omega, if_neg]
    rw [Int32.lt_iff_toInt_lt, pk_sub_toInt (by omega) (by omega), nI_toInt (by omega)]
    omega
theorem i_max {a b : Nat} (ha : a < 2 ^ 30) (hb : b < 2 ^ 30) : (if nI a < nI b then nI b else nI a) = nI (max a b) := by
  split
  · rename_i h
    rw [i_lt ha hb] at h
    rw [Nat.max_eq_right (by omega)]
  · rename_i h
    rw [i_lt ha hb] at h
    rw [Nat.max_eq_left (by omega)]
theorem i_min {a b : Nat} (ha : a < 2 ^ 30) (hb : b < 2 ^ 30) : (if nI b < nI a then nI b else nI a) = nI (min a b) := by
  split
  · rename_i h
    rw [i_lt hb ha] at h
    rw [Nat.min_eq_right (by omega)]
  · rename_i h
    rw [i_lt hb ha] at h
    rw [Nat.min_eq_left (by omega)]
theorem i_sh1 {i : Nat} (h : i < 7) : nI 1 <<< (nI i &&& 31) = nI (2 ^ i) := fin1 (p := fun i => nI 1 <<< (nI i &&& 31) = nI (2 ^ i)) (n := 7) (by decide +kernel) h
theorem i_bit {s i : Nat} (hs : s < 64) (hi : i < 6) : (nI s >>> (nI i &&& 31)) &&& nI 1 = nI (s.testBit i).toNat := fin2 (p := fun s i => (nI s >>> (nI i &&& 31)) &&& nI 1 = nI (s.testBit i).toNat) (n := 64) (m := 6) (by decide +kernel) hs hi
theorem i_and {a b : Nat} : nI a &&& nI b = nI (a &&& b) := fa_and a b
theorem i_or {a b : Nat} : nI a ||| nI b = nI (a ||| b) := fa_or a b
/-- a & ~b of small sets -/
theorem i_andn {a b : Nat} (ha : a < 32) (hb : b < 32) : nI a &&& (nI b ^^^ -nI 1) = nI (a &&& (31 - b)) := fin2 (p := fun a b => nI a &&& (nI b ^^^ -nI 1) = nI (a &&& (31 - b))) (n := 32) (m := 32) (by decide +kernel) ha hb
theorem b_or {i s : Nat} (h : s < 2 ^ i) : 2 ^ i ||| s = 2 ^ i + s := by
  have := Nat.two_pow_add_eq_or_of_lt (i := i) (b := s) h 1
  rw [Nat.mul_one] at this
  exact this.symm
/-- the sum of f over the members of a set (bits) among the first n -/
def csum (f : Nat → Nat) : Nat → Nat → Nat
  | 0, _ => 0
  | n + 1, s => csum f n s + if s.testBit n then f n else 0
theorem csum_succ (f : Nat → Nat) (n s : Nat) : csum f (n + 1) s = csum f n s + if s.testBit n then f n else 0 := rfl
theorem csum_cong {f g : Nat → Nat} {s t : Nat} : ∀ (n : Nat), (∀ i, i < n → f i = g i ∧ s.testBit i = t.testBit i) → csum f n s = csum g n t := by
  intro n
  induction n with
  | zero => intro _; rfl
  | succ n ih =>
    intro h
    rw [csum_succ, csum_succ, ih (fun i hi => h i (by omega)), (h n (by omega)).1, (h n (by omega)).2]
theorem csum_le {f : Nat → Nat} {b : Nat} : ∀ (n s : Nat), (∀ i, i < n → f i ≤ b) → csum f n s ≤ n * b := by
  intro n s
  induction n with
  | zero => intro _; rw [Nat.zero_mul]; exact Nat.le_refl _
  | succ n ih =>
    intro h
    have h1 := ih (fun i hi => h i (by omega))
    have h2 := h n (by omega)
    rw [csum_succ, Nat.succ_mul]
    split
    · omega
    · omega
theorem csum_high {f : Nat → Nat} : ∀ (m n s : Nat), n ≤ m → s < 2 ^ n → csum f m s = csum f n s := by
  intro m
  induction m with
  | zero => intro n s h _; rw [show n = 0 by omega]
  | succ m ih =>
    intro n s h hs
    rcases Nat.lt_or_ge m n with q | q
    · rw [show n = m + 1 by omega]
    · rw [csum_succ, ih n s q hs, if_neg, Nat.add_zero]
      rw [Nat.testBit_lt_two_pow (Nat.lt_of_lt_of_le hs (Nat.pow_le_pow_right (by decide) q))]
      decide
/-- one member more, higher than all others -/
theorem csum_add {f : Nat → Nat} {i s m : Nat} (hs : s < 2 ^ i) (hi : i < m) : csum f m (2 ^ i + s) = csum f m s + f i := by
  have h1 : 2 ^ i + s < 2 ^ (i + 1) := by rw [Nat.pow_succ]; omega
  rw [csum_high m (i + 1) _ hi h1, csum_high m i s (by omega) hs, csum_succ, Nat.testBit_two_pow_add_eq, Nat.testBit_lt_two_pow hs]
  simp only [Bool.not_false, if_true]
  congr 1
  exact csum_cong i (fun j hj => ⟨rfl, Nat.testBit_two_pow_add_gt hj s⟩)
/-- how many members -/
def bct (s : Nat) : Nat := csum (fun _ => 1) 6 s
/-- what one costs: kind, effort, habit, pull, chain, day -/
def prc (k e h p c d : Nat) : Nat :=
  if k = 1 then e - h + (if d % 3 = 0 then 2 else 0)
  else if k = 4 then e - h + (if d % 3 = 0 then 2 else 0) - 1
  else if k = 2 then e - h + (if d % 7 = 6 then p else 0)
  else if k = 3 then (e - h) / 2
  else if k = 5 then (e - h) / 2 + (if c = 0 then 1 else 0)
  else e - h
theorem prc_le {k e h p c d : Nat} (he : e ≤ 9) (hp : p ≤ 9) : prc k e h p c d ≤ 18 := by
  unfold prc
  repeat' split
  all_goals omega
def grw (k h : Nat) : Nat := min 9 (h + if k = 3 ∨ k = 5 then 2 else 1)
def shr (k h : Nat) : Nat := h - if k = 2 then 2 else 1
theorem grw_le {k h : Nat} : grw k h ≤ 9 := Nat.min_le_left _ _
