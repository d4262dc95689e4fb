-- PART 17: choosing by a rule, a day, in plain mathematics
theorem n31_bit {g i : Nat} (hg : g < 32) (hi : i < 5) : (31 - g).testBit i = !g.testBit i := fin2 (p := fun g i => (31 - g).testBit i = !g.testBit i) (n := 32) (m := 5) (by decide +kernel) hg hi
theorem hi_bit {w i : Nat} (hw : w < 32) (hi : 5 ≤ i) : w.testBit i = false := Nat.testBit_lt_two_pow (Nat.lt_of_lt_of_le hw (Nat.pow_le_pow_right (n := 2) (by decide) hi))
theorem yop_bit {B : Nat} {Y : Nat → Nat → Nat} (h : YOk B Y) {i : Nat} (hi : i < 5) : (yop Y).testBit i = (decide (i < Y 6 0) && !(Y 6 4).testBit i) := by
  unfold yop
  rw [Nat.testBit_and, Nat.testBit_two_pow_sub_one, n31_bit (yg_lt h) hi]
theorem rm_bit {w b i : Nat} (hw : w < 32) (hb : b < 5) : (w &&& (31 - 2 ^ b)).testBit i = (w.testBit i && !decide (b = i)) := by
  rw [Nat.testBit_and]
  rcases Nat.lt_or_ge i 5 with h | h
  · have : 2 ^ b < 32 := Nat.pow_lt_pow_right (a := 2) (by decide) (show b < 5 from hb)
    rw [n31_bit this h, Nat.testBit_two_pow]
  · rw [hi_bit hw h, Bool.false_and, Bool.false_and]
theorem in_bit {s b i : Nat} : (s ||| 2 ^ b).testBit i = (s.testBit i || decide (b = i)) := by rw [Nat.testBit_or, Nat.testBit_two_pow]
theorem rm_lt {w m : Nat} (h : w < 32) : w &&& m < 32 := Nat.lt_of_le_of_lt Nat.and_le_left h
theorem in_lt {s b : Nat} (h : s < 32) (hb : b < 5) : s ||| 2 ^ b < 32 := Nat.or_lt_two_pow (n := 5) h (Nat.pow_lt_pow_right (a := 2) (by decide) hb)
theorem csum_ins {f : Nat → Nat} {s b : Nat} (h : s.testBit b = false) : ∀ (m : Nat), csum f m (s ||| 2 ^ b) = csum f m s + if b < m then f b else 0 := by
  intro m
  induction m with
  | zero => rfl
  | succ m ih =>
    rw [csum_succ, csum_succ, ih, in_bit]
    by_cases e : b = m
    · subst e
      rw [h, if_neg (Nat.lt_irrefl b), if_pos (by simp), if_neg (by decide), if_pos (by omega)]
    · by_cases hb : b < m
      · rw [if_pos hb, if_pos (show b < m + 1 by omega)]
        simp only [e, decide_false, Bool.or_false]
        omega
      · rw [if_neg hb, if_neg (show ¬ b < m + 1 by omega)]
        simp only [e, decide_false, Bool.or_false]
        omega
def rkY (Y : Nat → Nat → Nat) (r i : Nat) : Int := if r = 0 then (yc Y i : Int) else if r = 1 then (i : Int) else if r = 2 then -(Y 4 i : Int) else (Y 2 i : Int)
/-- the first of least rank among the members of w below n -/
def scn (rk : Nat → Int) (w : Nat) : Nat → Option Nat
  | 0 => none
  | i + 1 => match scn rk w i with
    | none => if w.testBit i then some i else none
    | some b => if w.testBit i = true ∧ rk i < rk b then some i else some b
theorem scn_in {rk : Nat → Int} {w : Nat} : ∀ {n b : Nat}, scn rk w n = some b → b < n ∧ w.testBit b = true := by
  intro n
  induction n with
  | zero => intro b h; cases h
  | succ n ih =>
    intro b h
    unfold scn at h
    cases hs : scn rk w n with
    | none =>
      rw [hs] at h
      simp only at h
      split at h
      · cases h; exact ⟨by omega, by assumption⟩
      · cases h
    | some c =>
      rw [hs] at h
      simp only at h
      split at h
      · rename_i q
        cases h; exact ⟨by omega, q.1⟩
      · cases h
        have := ih hs
        exact ⟨by omega, this.2⟩
theorem scn_none {rk : Nat → Int} {w : Nat} : ∀ {n : Nat}, scn rk w n = none → ∀ i, i < n → w.testBit i = false := by
  intro n
  induction n with
  | zero => intro _ i h; exact absurd h (Nat.not_lt_zero i)
  | succ n ih =>
    intro h i hi
    unfold scn at h
    cases hs : scn rk w n with
    | none =>
      rw [hs] at h
      simp only at h
      split at h
      · cases h
      · rename_i q
        rcases Nat.lt_or_ge i n with a | a
        · exact ih hs i a
        · rw [show i = n by omega]
          simpa using q
    | some c =>
      rw [hs] at h
      simp only at h
      split at h <;> cases h
theorem scn_zero {rk : Nat → Int} : ∀ (n : Nat), scn rk 0 n = none := by
  intro n
  cases h : scn rk 0 n with
  | none => rfl
  | some b =>
    have := (scn_in h).2
    rw [Nat.zero_testBit] at this
    cases this
theorem scn_cong {rk rk2 : Nat → Int} {w : Nat} : ∀ (n : Nat), (∀ i k, i < n → k < i → (rk i < rk k ↔ rk2 i < rk2 k)) → scn rk w n = scn rk2 w n := by
  intro n
  induction n with
  | zero => intro _; rfl
  | succ n ih =>
    intro h
    have e := ih (fun i k h1 h2 => h i k (by omega) h2)
    unfold scn
    rw [e]
    cases hs : scn rk2 w n with
    | none => rfl
    | some b =>
      have hb := (scn_in hs).1
      simp only [h n b (by omega) hb]
/-- deeds taken one behind the other, as long as the will lasts -/
def chs (c : Nat → Nat) (rk : Nat → Int) (n wl : Nat) : Nat → Nat → Nat → Nat
  | 0, _, s => s
  | k + 1, w, s => match scn rk w n with
    | none => s
    | some b => chs c rk n wl k (w &&& (31 - 2 ^ b)) (if csum c 5 s + c b ≤ wl then s ||| 2 ^ b else s)
theorem chs_none {c : Nat → Nat} {rk : Nat → Int} {n wl k w s : Nat} (h : scn rk w n = none) : chs c rk n wl k w s = s := by
  cases k with
  | zero => rfl
  | succ k => unfold chs; rw [h]
theorem chs_some {c : Nat → Nat} {rk : Nat → Int} {n wl k w s b : Nat} (h : scn rk w n = some b) : chs c rk n wl (k + 1) w s = chs c rk n wl k (w &&& (31 - 2 ^ b)) (if csum c 5 s + c b ≤ wl then s ||| 2 ^ b else s) := by
  rw [chs, h]
def chY (Y : Nat → Nat → Nat) (r : Nat) : Nat := chs (ycz Y) (rkY Y r) (Y 6 0) (Y 6 2) (Y 6 0) (yop Y) 0
/-- what is chosen was waiting, or chosen before -/
theorem chs_sub {c : Nat → Nat} {rk : Nat → Int} {n wl : Nat} (hn : n ≤ 5) : ∀ (k w s : Nat), w < 32 → s < 32 → chs c rk n wl k w s < 32 ∧ ∀ i, (chs c rk n wl k w s).testBit i = true → w.testBit i = true ∨ s.testBit i = true := by
  intro k
  induction k with
  | zero => intro w s _ hs; exact ⟨hs, fun i h => Or.inr h⟩
  | succ k ih =>
    intro w s hw hs
    cases h : scn rk w n with
    | none => rw [chs_none h]; exact ⟨hs, fun i h => Or.inr h⟩
    | some b =>
      rw [chs_some h]
      have hb := scn_in h
      have hb5 : b < 5 := by omega
      have h2 : (if csum c 5 s + c b ≤ wl then s ||| 2 ^ b else s) < 32 := by
        split
        · exact in_lt hs hb5
        · exact hs
      obtain ⟨a1, a2⟩ := ih (w &&& (31 - 2 ^ b)) _ (rm_lt hw) h2
      refine ⟨a1, fun i hi => ?_⟩
      rcases a2 i hi with q | q
      · rw [rm_bit hw hb5] at q
        left
        simp only [Bool.and_eq_true] at q
        exact q.1
      · split at q
        · rw [in_bit] at q
          simp only [Bool.or_eq_true, decide_eq_true_eq] at q
          rcases q with q | q
          · exact Or.inr q
          · left; rw [← q]; exact hb.2
        · exact Or.inr q
theorem chY_sub {B : Nat} {Y : Nat → Nat → Nat} (h : YOk B Y) (r : Nat) : chY Y r < 32 ∧ ∀ i, (chY Y r).testBit i = true → i < Y 6 0 ∧ (Y 6 4).testBit i = false := by
  obtain ⟨a1, a2⟩ := chs_sub (c := ycz Y) (rk := rkY Y r) (wl := Y 6 2) h.1.1 (Y 6 0) (yop Y) 0 (yop_lt h.1.1) (by decide)
  refine ⟨a1, fun i hi => ?_⟩
  have hi5 : i < 5 := by
    rcases Nat.lt_or_ge i 5 with q | q
    · exact q
    · have := hi_bit a1 q
      unfold chY at hi
      rw [this] at hi
      cases hi
  rcases a2 i hi with q | q
  · rw [yop_bit h hi5] at q
    simpa using q
  · rw [Nat.zero_testBit] at q
    cases q
-- a day
def npv (Y : Nat → Nat → Nat) (s o f t : Nat) : Nat :=
  if f = 2 then (if (Y 6 4).testBit t then Y 2 t else if s.testBit t then grw (Y 0 t) (Y 2 t) else if o.testBit t then Y 2 t else shr (Y 0 t) (Y 2 t))
  else if f = 4 then (if (Y 6 4).testBit t then Y 4 t else if s.testBit t then Y 4 t + 1 else if o.testBit t then Y 4 t else 0)
  else if f = 5 then (if (Y 6 4).testBit t then Y 5 t else if s.testBit t then Y 5 t + 1 else Y 5 t)
  else Y f t
/-- how many of the first i are off -/
def ofc (Y : Nat → Nat → Nat) (s o : Nat) : Nat → Nat
  | 0 => 0
  | i + 1 => ofc Y s o i + if (Y 6 4).testBit i = false ∧ s.testBit i = false ∧ o.testBit i = true then 1 else 0
theorem ofc_succ {Y : Nat → Nat → Nat} {s o i : Nat} : ofc Y s o (i + 1) = ofc Y s o i + if (Y 6 4).testBit i = false ∧ s.testBit i = false ∧ o.testBit i = true then 1 else 0 := rfl
/-- a day, done for the first i deeds -/
def pp (Y : Nat → Nat → Nat) (s o i : Nat) : Nat → Nat → Nat := fun f t => if f < 6 then (if t < i then npv Y s o f t else Y f t) else if f = 6 ∧ t = 3 then Y 6 3 - ofc Y s o i else Y f t
/-- a day: s kept, o off -/
def psY (Y : Nat → Nat → Nat) (s o : Nat) : Nat → Nat → Nat := yset (pp Y s o (Y 6 0)) 6 1 (Y 6 1 + 1)
theorem pp_0 {Y : Nat → Nat → Nat} {s o : Nat} : pp Y s o 0 = Y := by
  funext f t
  unfold pp
  rw [if_neg (Nat.not_lt_zero t)]
  split
  · rfl
  · split
    · rename_i h; rw [h.1, h.2]; rfl
    · rfl
theorem pp_low {Y : Nat → Nat → Nat} {s o i f t : Nat} (hf : f < 6) (h : ¬ t < i) : pp Y s o i f t = Y f t := by
  unfold pp
  rw [if_pos hf, if_neg h]
theorem pp_kind {Y : Nat → Nat → Nat} {s o i t : Nat} : pp Y s o i 0 t = Y 0 t ∧ pp Y s o i 1 t = Y 1 t ∧ pp Y s o i 3 t = Y 3 t := by
  unfold pp npv
  refine ⟨?_, ?_, ?_⟩ <;> simp
theorem pp_sc {Y : Nat → Nat → Nat} {s o i t : Nat} (h : ¬ t = 3) : pp Y s o i 6 t = Y 6 t := by
  unfold pp
  rw [if_neg (by omega), if_neg (fun q => h q.2)]
theorem pp_offs {Y : Nat → Nat → Nat} {s o i : Nat} : pp Y s o i 6 3 = Y 6 3 - ofc Y s o i := by
  unfold pp
  rw [if_neg (by omega), if_pos ⟨rfl, rfl⟩]
theorem ofc_le {Y : Nat → Nat → Nat} {s o : Nat} : ∀ (n i : Nat), i ≤ n → ofc Y s o i ≤ ofc Y s o n := by
  intro n
  induction n with
  | zero => intro i h; rw [show i = 0 by omega]; exact Nat.le_refl _
  | succ n ih =>
    intro i h
    rcases Nat.lt_or_ge n i with q | q
    · rw [show i = n + 1 by omega]; exact Nat.le_refl _
    · have := ih i q
      rw [ofc_succ]
      omega
theorem psY_sc {Y : Nat → Nat → Nat} {s o : Nat} : psY Y s o 6 0 = Y 6 0 ∧ psY Y s o 6 1 = Y 6 1 + 1 ∧ psY Y s o 6 2 = Y 6 2 ∧ psY Y s o 6 3 = Y 6 3 - ofc Y s o (Y 6 0) ∧ psY Y s o 6 4 = Y 6 4 := by
  unfold psY yset
  refine ⟨?_, ?_, ?_, ?_, ?_⟩
  · rw [if_neg (by omega), pp_sc (by decide)]
  · rw [if_pos ⟨rfl, rfl⟩]
  · rw [if_neg (by omega), pp_sc (by decide)]
  · rw [if_neg (by omega), pp_offs]
  · rw [if_neg (by omega), pp_sc (by decide)]
theorem psY_at {Y : Nat → Nat → Nat} {s o f t : Nat} (hf : f < 6) : psY Y s o f t = if t < Y 6 0 then npv Y s o f t else Y f t := by
  unfold psY yset
  rw [if_neg (by omega)]
  unfold pp
  rw [if_pos hf]
theorem shr_le {k h : Nat} : shr k h ≤ h := Nat.sub_le _ _
theorem npv_ok {B : Nat} {Y : Nat → Nat → Nat} {s o t : Nat} (h : YOk B Y) (ht : t < Y 6 0) : npv Y s o 0 t < 6 ∧ npv Y s o 1 t ≤ 9 ∧ npv Y s o 2 t ≤ 9 ∧ npv Y s o 3 t ≤ 9 ∧ npv Y s o 4 t ≤ B + 1 ∧ npv Y s o 5 t ≤ B + 1 := by
  obtain ⟨a0, a1, a2, a3, a4, a5⟩ := h.2 t ht
  have g := grw_le (k := Y 0 t) (h := Y 2 t)
  have r := shr_le (k := Y 0 t) (h := Y 2 t)
  unfold npv
  simp only [show ¬ (0 = 2) from by decide, show ¬ (0 = 4) from by decide, show ¬ (0 = 5) from by decide, show ¬ (1 = 2) from by decide, show ¬ (1 = 4) from by decide, show ¬ (1 = 5) from by decide, show ¬ (3 = 2) from by decide, show ¬ (3 = 4) from by decide, show ¬ (3 = 5) from by decide, show ¬ (4 = 2) from by decide, show ¬ (5 = 2) from by decide, show ¬ (5 = 4) from by decide, if_false, if_true]
  refine ⟨a0, a1, ?_, a3, ?_, ?_⟩
  · repeat' split
    all_goals omega
  · repeat' split
    all_goals omega
  · repeat' split
    all_goals omega
theorem psY_ok {B : Nat} {Y : Nat → Nat → Nat} {s o : Nat} (h : YOk B Y) : YOk (B + 1) (psY Y s o) := by
  obtain ⟨e0, e1, e2, e3, e4⟩ := psY_sc (Y := Y) (s := s) (o := o)
  have h0 := h
  obtain ⟨⟨b0, b1, b2, b3, b4⟩, b5⟩ := h
  refine ⟨⟨by rw [e0]; exact b0, by rw [e1]; omega, by rw [e2]; exact b2, by rw [e3]; omega, by rw [e4, e0]; exact b4⟩, fun i hi => ?_⟩
  rw [e0] at hi
  have hn := npv_ok (s := s) (o := o) h0 hi
  rw [psY_at (by decide), psY_at (by decide), psY_at (by decide), psY_at (by decide), psY_at (by decide), psY_at (by decide)]
  simp only [hi, if_true]
  exact hn
theorem YOk_mono {B C : Nat} {Y : Nat → Nat → Nat} (h : YOk B Y) (hBC : B ≤ C) : YOk C Y := ⟨⟨h.1.1, by have := h.1.2.1; omega, h.1.2.2⟩, fun i hi => by have := h.2 i hi; omega⟩
/-- all go by themselves -/
def Done (Y : Nat → Nat → Nat) : Prop := ∀ i, i < Y 6 0 → (Y 6 4).testBit i = true ∨ Y 1 i ≤ Y 2 i
def yhab (Y : Nat → Nat → Nat) : Nat := fb_sm (fun i => if (Y 6 4).testBit i then 0 else Y 2 i) (Y 6 0)
def yruns (Y : Nat → Nat → Nat) : Nat := fb_sm (fun i => (isk (Y 0 i) 1).toNat) (Y 6 0)
def ylos (Y : Nat → Nat → Nat) (s : Nat) : Nat := fb_sm (fun i => if s.testBit i then Y 2 i - shr (Y 0 i) (Y 2 i) else 0) (Y 6 0)
