-- PART 24: what is real in a state (groups of cells), frames, the relation of the two
theorem i_lt0 {a : Nat} (h : a < 2 ^ 30) : (nI a < 0) = False := eq_false (nI_pos (by omega))
theorem i_0le {a : Nat} (h : a < 2 ^ 30) : (0 ≤ nI a) = True := by
  rw [n0, i_le (by decide) h]
  exact eq_true (Nat.zero_le a)
theorem i_0lt {a : Nat} (h : a < 2 ^ 30) : (0 < nI a) = (0 < a) := by rw [n0, i_lt (by decide) h]
theorem i_le0 {a : Nat} (h : a < 2 ^ 30) : (nI a ≤ 0) = (a = 0) := by
  rw [n0, i_le h (by decide)]
  exact propext Nat.le_zero
theorem i_in1 {a n : Nat} (h : a < n) (hn : n < 2 ^ 30) : vp_in (nI a) n = True := eq_true (i_in h hn)
theorem i_neg1 {b : Nat} (h0 : 0 < b) (h : b < 2 ^ 30) : (-nI b < 0) = True := by
  rw [Int32.lt_iff_toInt_lt, neg_toInt h, Int32.toInt_zero]
  exact eq_true (by omega)
theorem i_neg2 {b : Nat} (h0 : 0 < b) (h : b < 2 ^ 30) : (0 ≤ -nI b) = False := by
  rw [Int32.le_iff_toInt_le, neg_toInt h, Int32.toInt_zero]
  exact eq_false (by omega)
theorem i_neg3 {a b : Nat} (ha : a < 2 ^ 30) (h : b < 2 ^ 30) : (-nI a = -nI b) = (a = b) := by
  refine propext ⟨fun e => ?_, fun e => by rw [e]⟩
  have := congrArg Int32.toInt e
  rw [neg_toInt ha, neg_toInt h] at this
  omega
theorem i_neg4 {a b : Nat} (ha : a < 2 ^ 30) (h0 : 0 < b) (h : b < 2 ^ 30) : (nI a = -nI b) = False := by
  refine eq_false (fun e => ?_)
  have := congrArg Int32.toInt e
  rw [nI_toInt (by omega), neg_toInt h] at this
  omega
theorem i_neg5 {a b : Nat} (ha : a < 2 ^ 30) (h0 : 0 < b) (h : b < 2 ^ 30) : (-nI b = nI a) = False := eq_false (fun e => (i_neg4 ha h0 h).mp e.symm)
theorem i_neg6 {a b : Nat} (ha : a < 2 ^ 30) (h0 : 0 < b) (h : b < 2 ^ 30) : (nI a ≤ -nI b) = False := by
  rw [Int32.le_iff_toInt_le, neg_toInt h, nI_toInt (by omega)]
  exact eq_false (by omega)
theorem i_neg7 {a b : Nat} (ha : a < 2 ^ 30) (h0 : 0 < b) (h : b < 2 ^ 30) : (-nI b < nI a) = True := by
  rw [Int32.lt_iff_toInt_lt, neg_toInt h, nI_toInt (by omega)]
  exact eq_true (by omega)
theorem i_neg8 {a b : Nat} (ha : a < 2 ^ 30) (h0 : 0 < b) (h : b < 2 ^ 30) : (nI a < -nI b) = False := by
  rw [Int32.lt_iff_toInt_lt, neg_toInt h, nI_toInt (by omega)]
  exact eq_false (by omega)
theorem i_neg9 {a b : Nat} (ha : a < 2 ^ 30) (h0 : 0 < b) (h : b < 2 ^ 30) : (-nI b ≤ nI a) = True := by
  rw [Int32.le_iff_toInt_le, neg_toInt h, nI_toInt (by omega)]
  exact eq_true (by omega)
theorem i_nega {b : Nat} (h0 : 0 < b) (h : b < 2 ^ 30) : (-nI b = 0) = False := by
  rw [n0]
  exact i_neg5 (by decide) h0 h
theorem i_negb {b : Nat} (h0 : 0 < b) (h : b < 2 ^ 30) : (0 < -nI b) = False := by
  rw [n0]
  exact i_neg8 (by decide) h0 h
theorem i_negc {b : Nat} (h0 : 0 < b) (h : b < 2 ^ 30) : (-nI b ≤ 0) = True := by
  rw [n0]
  exact i_neg9 (by decide) h0 h
theorem nt_le {a b : Nat} (h : a ≤ b) : (a ≤ b) = True := eq_true h
theorem nf_le {a b : Nat} (h : b < a) : (a ≤ b) = False := eq_false (Nat.not_le.mpr h)
theorem nt_lt {a b : Nat} (h : a < b) : (a < b) = True := eq_true h
theorem nf_lt {a b : Nat} (h : b ≤ a) : (a < b) = False := eq_false (Nat.not_lt.mpr h)
theorem nt_eq {a b : Nat} (h : a = b) : (a = b) = True := eq_true h
theorem nf_eq {a b : Nat} (h : a < b ∨ b < a) : (a = b) = False := eq_false (by omega)
theorem i_max2 {a b : Nat} : (if a < b then nI b else nI a) = nI (max a b) := by
  split
  · rw [Nat.max_eq_right (by omega)]
  · rw [Nat.max_eq_left (by omega)]
theorem i_min2 {a b : Nat} : (if b < a then nI b else nI a) = nI (min a b) := by
  split
  · rw [Nat.min_eq_right (by omega)]
  · rw [Nat.min_eq_left (by omega)]
theorem sz_0 : szI 0 = -nI 1 := rfl
-- numbers of a call within bounds
def inB (r : Int32) (N : Nat) : Bool := decide (0 ≤ r.toInt ∧ r.toInt < (N : Int))
theorem inb_nat {r : Int32} {N : Nat} (h : inB r N = true) : ∃ n, n < N ∧ r = nI n := by
  have h1 := of_decide_eq_true h
  refine ⟨r.toInt.toNat, by omega, ?_⟩
  apply Int32.toInt_inj.mp
  have h2 := fb_rng r
  rw [nI_toInt (by omega)]
  omega
theorem inb_nI {n N : Nat} (h : n < 2 ^ 31) : inB (nI n) N = decide (n < N) := by
  unfold inB
  rw [nI_toInt h]
  by_cases q : n < N
  · rw [decide_eq_true q]; exact decide_eq_true (by omega)
  · rw [decide_eq_false q]; exact decide_eq_false (by omega)
theorem inb_t {n N : Nat} (h : n < N) (hN : N < 2 ^ 30) : inB (nI n) N = true := by rw [inb_nI (by omega)]; exact decide_eq_true h
theorem inb_off {r : Int32} {N : Nat} (hN : N < 2 ^ 30) (h : inB r N = false) : r < 0 ∨ nI N ≤ r := by
  have h1 := of_decide_eq_false h
  rw [Int32.lt_iff_toInt_lt, Int32.le_iff_toInt_le, Int32.toInt_zero, nI_toInt (by omega)]
  omega
theorem inb_iff {r : Int32} {N : Nat} (hN : N < 2 ^ 30) : (¬ r < 0 ∧ ¬ nI N ≤ r) ↔ inB r N = true := by
  unfold inB
  rw [decide_eq_true_eq, Int32.lt_iff_toInt_lt, Int32.le_iff_toInt_le, Int32.toInt_zero, nI_toInt (by omega)]
  omega
theorem inb_le {r : Int32} {N : Nat} (hN : N < 2 ^ 30) : (nI 0 ≤ r ∧ r ≤ nI N) ↔ inB r (N + 1) = true := by
  unfold inB
  rw [decide_eq_true_eq, Int32.le_iff_toInt_le, Int32.le_iff_toInt_le, nI_toInt (by decide), nI_toInt (by omega)]
  omega
theorem inb_sub {r : Int32} {N : Nat} (hN : N < 2 ^ 30) : (nI 0 ≤ r ∧ r ≤ nI N - nI 1) ↔ inB r N = true := by
  unfold inB
  rw [decide_eq_true_eq, Int32.le_iff_toInt_le, Int32.le_iff_toInt_le, pk_sub_toInt hN (by decide), nI_toInt (by decide)]
  omega
-- groups of cells: 0 aside, 1 rows, 2 texts, 3 the year's beginning and what is kept, 4 what asked() tells, 5 findings, 6 upper, lower, 7 the class's acts and year now, 8 the reference's
def cI (k i f : Nat) : Nat := if k = 0 then 7 else if k = 6 then (if i = 0 then 3 else if i = 1 then 7 else 0) else if k = 7 then (if f = 11 then 4 else if f = 10 then 5 else 0) else if k = 8 then (if f = 0 then 5 else if f = 2 then 4 else if f = 10 then 3 else if f = 22 then 8 else 0) else 0
def cL (k f : Nat) : Nat := if k = 4 then 6 else if k = 8 then (if f = 36 then 0 else 6) else 0
def cA (k i : Nat) : Nat := if k = 15 ∨ k = 16 ∨ k = 31 ∨ k = 32 then 1 else if k = 17 ∨ k = 18 ∨ k = 34 ∨ k = 35 then 2 else if k = 27 ∨ k = 30 then 5 else if k = 11 ∨ k = 12 ∨ k = 36 ∨ k = 37 ∨ k = 38 ∨ k = 43 ∨ k = 44 ∨ k = 45 ∨ k = 46 then 3 else if k = 10 then 7 else if k = 40 ∨ k = 42 then 8 else if 20 ≤ k ∧ k ≤ 25 then (if i = 0 then 3 else if i = 1 then 7 else 0) else 0
/-- the groups that p names are as they were -/
def Fr (p : Nat → Bool) (S S2 : MS) : Prop := (∀ k i f, p (cI k i f) = true → gI S2 k i f = gI S k i f) ∧ (∀ k i f, p (cL k f) = true → gL S2 k i f = gL S k i f) ∧ ∀ k i, p (cA k i) = true → gA S2 k i = gA S k i
def p0 : Nat → Bool := fun g => g != 0
def pN (a : Nat) : Nat → Bool := fun g => g != 0 && g != a
def p3 : Nat → Bool := fun g => g != 0 && g != 3 && g != 7 && g != 8
abbrev Fs (S S2 : MS) : Prop := Fr p0 S S2
section
variable {p p2 : Nat → Bool} {S T U : MS}
theorem Fr.refl : Fr p S S := ⟨fun _ _ _ _ => rfl, fun _ _ _ _ => rfl, fun _ _ _ => rfl⟩
theorem Fr.trans (h1 : Fr p S T) (h2 : Fr p T U) : Fr p S U := ⟨fun k i f h => (h2.1 k i f h).trans (h1.1 k i f h), fun k i f h => (h2.2.1 k i f h).trans (h1.2.1 k i f h), fun k i h => (h2.2.2 k i h).trans (h1.2.2 k i h)⟩
theorem Fr.mono (h : Fr p S T) (hp : ∀ g, p2 g = true → p g = true) : Fr p2 S T := ⟨fun k i f q => h.1 k i f (hp _ q), fun k i f q => h.2.1 k i f (hp _ q), fun k i q => h.2.2 k i (hp _ q)⟩
theorem pn_0 {a : Nat} : ∀ g, pN a g = true → p0 g = true := fun g h => (Bool.and_eq_true_iff.mp h).1
theorem Fr.pn {a : Nat} (h : Fs S T) : Fr (pN a) S T := h.mono pn_0
theorem fr_sI {k i f : Nat} {v : Int32} (h : p (cI k i f) = false) : Fr p S (sI S k i f v) := ⟨fun a b c q => by rw [gI_sI, if_neg (fun e => by rw [e.1, e.2.1, e.2.2, h] at q; cases q)], fun _ _ _ _ => rfl, fun _ _ _ => rfl⟩
theorem fr_sL {k i f : Nat} {v : Int64} (h : p (cL k f) = false) : Fr p S (sL S k i f v) := ⟨fun _ _ _ _ => rfl, fun a b c q => by rw [gL_sL, if_neg (fun e => by rw [e.1, e.2.2, h] at q; cases q)], fun _ _ _ => rfl⟩
theorem fr_sA {k i : Nat} {r : Nat → Int32} (h : p (cA k i) = false) : Fr p S (sA S k i r) := ⟨fun _ _ _ _ => rfl, fun _ _ _ _ => rfl, fun a b q => by rw [gA_sA, if_neg (fun e => by rw [e.1, e.2, h] at q; cases q)]⟩
theorem cI_sc {j f : Nat} (hj : 2 ≤ j) : cI 6 j f = 0 := by unfold cI; rw [if_neg (by omega), if_pos rfl, if_neg (by omega), if_neg (by omega)]
theorem cI_rd {i f : Nat} : cI 2 i f = 0 := rfl
theorem cA_sc {k j : Nat} (h1 : 20 ≤ k) (h2 : k ≤ 26) (hj : 2 ≤ j) : cA k j = 0 := by
  unfold cA
  rw [if_neg (by omega), if_neg (by omega), if_neg (by omega), if_neg (by omega), if_neg (by omega), if_neg (by omega)]
  split
  · rw [if_neg (by omega), if_neg (by omega)]
  · rfl
theorem fs_fy {j : Nat} (h : FY j S T) (hj : 2 ≤ j) : Fs S T := by
  refine ⟨fun k i f q => h.1 k i f (fun e => ?_), fun k i f _ => h.2.1 k i f, fun k i q => h.2.2 k i (fun e => ?_)⟩
  · rw [e.1, cI_sc (by omega)] at q; cases q
  · rw [cA_sc e.1 e.2.1 (by omega)] at q; cases q
theorem fs_fry (h : FRY S T) : Fs S T := by
  refine ⟨fun k i f q => h.1 k i f (fun e => ?_) (fun e => ?_), fun k i f _ => h.2.1 k i f, fun k i q => h.2.2 k i (fun e => ?_)⟩
  · rw [e] at q; cases q
  · rw [e.1, cI_sc (by omega)] at q; cases q
  · rw [cA_sc e.1 e.2.1 (by omega)] at q; cases q
theorem fs_26 {j : Nat} {r : Nat → Int32} : Fs S (sA S 26 j r) := fr_sA (by show p0 (cA 26 j) = false; rfl)
end
-- the two sides' states
def R1 (S : MS) (rs : Nat → Nat) (rc : Nat → Nat → Int32) : Prop := Tb S 15 16 6 40 rs rc ∧ Tb S 31 32 6 40 rs rc
def R2 (S : MS) (ts : Nat → Nat) (tc : Nat → Nat → Int32) : Prop := Tb S 17 18 4 60 ts tc ∧ Tb S 34 35 4 60 ts tc ∧ ∀ t, byO (tc t)
def kz (kp : Nat → Option (List Nat)) (k : Nat) : Nat := match kp k with
  | none => 0
  | some l => l.length + 1
def kcI (kp : Nat → Option (List Nat)) (k i : Nat) : Int32 := nI (((kp k).getD []).getD i 0)
/-- a year in the reference's row, from place o on -/
def NwA (g : Nat → Int32) (o : Nat) (Y : Nat → Nat → Nat) : Prop := (g o = nI (Y 6 1) ∧ g (o + 1) = nI (Y 6 2) ∧ g (o + 2) = nI (Y 6 3) ∧ g (o + 3) = nI (Y 6 4)) ∧ ∀ i, i < Y 6 0 → g (o + (4 + i)) = nI (Y 2 i) ∧ g (o + (9 + i)) = nI (Y 4 i) ∧ g (o + (14 + i)) = nI (Y 5 i)
/-- what stays of a year in the reference -/
def MB (S : MS) (Y : Nat → Nat → Nat) : Prop := gI S 8 0 10 = nI (Y 6 0) ∧ ∀ i, i < Y 6 0 → gA S 36 0 i = nI (Y 0 i) ∧ gA S 37 0 i = nI (Y 1 i) ∧ gA S 38 0 i = nI (Y 3 i)
def YrM (S : MS) (k : Nat) (Y : Nat → Nat → Nat) : Prop := MB S Y ∧ NwA (gA S k 0) 0 Y
def XAc (S : MS) (as : List Nat) : Prop := gI S 0 0 3 = nI as.length ∧ ∀ i, i < as.length → gA S 10 0 i = nI (as.getD i 0)
def MLg (S : MS) (Y0 : Nat → Nat → Nat) (as : List Nat) : Prop := gI S 8 0 22 = nI as.length ∧ ∀ k, k < as.length → NwA (gA S 42 0) (19 * k) (nwY Y0 (as.take k))
def MKp (S : MS) (Y0 : Nat → Nat → Nat) (kp : Nat → Option (List Nat)) : Prop := ∀ k, k < 3 → match kp k with
  | none => gA S 43 0 k = nI 0
  | some l => gA S 43 0 k = nI 1 ∧ gA S 44 0 k = nI l.length ∧ NwA (gA S 45 0) (19 * k) (nwY Y0 l) ∧ ∀ q, q < l.length → NwA (gA S 46 0) (760 * k + 19 * q) (nwY Y0 (l.take q))
def AcOk (Y0 : Nat → Nat → Nat) (as : List Nat) : Prop := as.length ≤ 40 ∧ AsOk Y0 as
def R3 (S : MS) (Y0 : Nat → Nat → Nat) (as : List Nat) (kp : Nat → Option (List Nat)) : Prop :=
  (YrX S 0 Y0 ∧ YrX S 1 (nwY Y0 as) ∧ XAc S as ∧ Tb S 12 11 3 40 (kz kp) (kcI kp)) ∧ (YrM S 40 (nwY Y0 as) ∧ MLg S Y0 as ∧ MKp S Y0 kp) ∧ YOk 0 Y0 ∧ AcOk Y0 as ∧ ∀ k, k < 3 → ∀ l, kp k = some l → AcOk Y0 l
def R4 (S : MS) : Prop := gI S 7 0 11 = gI S 8 0 2
def R5 (S : MS) : Prop := gI S 7 0 10 = gI S 8 0 0 ∧ ∀ f, f < 6 → gA S 27 0 f = gA S 30 0 f
def R6 (S : MS) : Prop := gL S 4 0 0 = gL S 8 0 3 ∧ gL S 4 0 1 = gL S 8 0 4
def Rr (S : MS) : Prop := (∃ rs rc, R1 S rs rc) ∧ (∃ ts tc, R2 S ts tc) ∧ (∃ Y0 as kp, R3 S Y0 as kp) ∧ R4 S ∧ R5 S ∧ R6 S
section
variable {p : Nat → Bool} {S T : MS} {rs : Nat → Nat} {rc : Nat → Nat → Int32} {Y Y0 : Nat → Nat → Nat} {as : List Nat} {kp : Nat → Option (List Nat)}
theorem tb_fr {kz kc N w : Nat} (h : Tb S kz kc N w rs rc) (f : Fr p S T) (h1 : p (cA kz 0) = true) (h2 : p (cA kc 0) = true) : Tb T kz kc N w rs rc := fun r hr => by
  rw [f.2.2 kz 0 h1, f.2.2 kc 0 h2]
  exact h r hr
theorem r1_fr (h : R1 S rs rc) (f : Fr p S T) (h1 : p 1 = true) : R1 T rs rc := ⟨tb_fr h.1 f h1 h1, tb_fr h.2 f h1 h1⟩
theorem r2_fr (h : R2 S rs rc) (f : Fr p S T) (h1 : p 2 = true) : R2 T rs rc := ⟨tb_fr h.1 f h1 h1, tb_fr h.2.1 f h1 h1, h.2.2⟩
theorem cA_0 {g : Nat} (hg : g < 6) : cA (20 + g) 0 = 3 := by
  unfold cA
  rw [if_neg (by omega), if_neg (by omega), if_neg (by omega), if_neg (by omega), if_neg (by omega), if_neg (by omega), if_pos (by omega), if_pos rfl]
theorem cA_1 {g : Nat} (hg : g < 6) : cA (20 + g) 1 = 7 := by
  unfold cA
  rw [if_neg (by omega), if_neg (by omega), if_neg (by omega), if_neg (by omega), if_neg (by omega), if_neg (by omega), if_pos (by omega), if_neg (by decide), if_pos rfl]
theorem yrx0_fr (h : YrX S 0 Y) (f : Fr p S T) (h1 : p 3 = true) : YrX T 0 Y := ⟨fun g hg i hi => by rw [f.2.2 (20 + g) 0 (by rw [cA_0 hg]; exact h1)]; exact h.1 g hg i hi, fun t ht => by rw [f.1 6 0 (7 + t) h1]; exact h.2 t ht⟩
theorem yrx1_fr (h : YrX S 1 Y) (f : Fr p S T) (h1 : p 7 = true) : YrX T 1 Y := ⟨fun g hg i hi => by rw [f.2.2 (20 + g) 1 (by rw [cA_1 hg]; exact h1)]; exact h.1 g hg i hi, fun t ht => by rw [f.1 6 1 (7 + t) h1]; exact h.2 t ht⟩
theorem mb_fr (h : MB S Y) (f : Fr p S T) (h1 : p 3 = true) : MB T Y := by
  refine ⟨(f.1 8 0 10 h1).trans h.1, fun i hi => ?_⟩
  rw [f.2.2 36 0 h1, f.2.2 37 0 h1, f.2.2 38 0 h1]
  exact h.2 i hi
theorem yrm_fr (h : YrM S 40 Y) (f : Fr p S T) (h1 : p 3 = true) (h2 : p 8 = true) : YrM T 40 Y := ⟨mb_fr h.1 f h1, by rw [f.2.2 40 0 h2]; exact h.2⟩
theorem mkp_fr (h : MKp S Y0 kp) (f : Fr p S T) (h1 : p 3 = true) : MKp T Y0 kp := by
  intro k hk
  have := h k hk
  rw [f.2.2 43 0 h1, f.2.2 44 0 h1, f.2.2 45 0 h1, f.2.2 46 0 h1]
  exact this
theorem mlg_fr (h : MLg S Y0 as) (f : Fr p S T) (h1 : p 8 = true) : MLg T Y0 as := ⟨(f.1 8 0 22 h1).trans h.1, by rw [f.2.2 42 0 h1]; exact h.2⟩
theorem xac_fr (h : XAc S as) (f : Fr p S T) (h1 : p 7 = true) : XAc T as := ⟨(f.1 0 0 3 h1).trans h.1, by rw [f.2.2 10 0 h1]; exact h.2⟩
theorem r3_fr (h : R3 S Y0 as kp) (f : Fr p S T) (h1 : p 3 = true) (h7 : p 7 = true) (h8 : p 8 = true) : R3 T Y0 as kp := by
  obtain ⟨⟨a1, a2, a3, a4⟩, ⟨b1, b2, b3⟩, c⟩ := h
  exact ⟨⟨yrx0_fr a1 f h1, yrx1_fr a2 f h7, xac_fr a3 f h7, tb_fr a4 f h1 h1⟩, ⟨yrm_fr b1 f h1 h8, mlg_fr b2 f h8, mkp_fr b3 f h1⟩, c⟩
/-- other acts than before: first the class's side is done, then the reference's -/
theorem r3_acts {U : MS} {as2 : List Nat} (h : R3 S Y0 as kp) (fx : Fr (pN 7) S T) (fm : Fr (pN 8) T U) (x1 : XAc T as2) (x2 : YrX T 1 (nwY Y0 as2)) (m1 : MLg U Y0 as2) (m2 : YrM U 40 (nwY Y0 as2)) (ok : AcOk Y0 as2) : R3 U Y0 as2 kp := by
  obtain ⟨⟨a1, a2, a3, a4⟩, ⟨b1, b2, b3⟩, c1, c2, c3⟩ := h
  exact ⟨⟨yrx0_fr (yrx0_fr a1 fx rfl) fm rfl, yrx1_fr x2 fm rfl, xac_fr x1 fm rfl, tb_fr (tb_fr a4 fx rfl rfl) fm rfl rfl⟩, ⟨m2, m1, mkp_fr (mkp_fr b3 fx rfl) fm rfl⟩, c1, ok, c3⟩
theorem r4_fr (h : R4 S) (f : Fr p S T) (h1 : p 4 = true) : R4 T := (f.1 7 0 11 h1).trans (h.trans (f.1 8 0 2 h1).symm)
theorem r5_fr (h : R5 S) (f : Fr p S T) (h1 : p 5 = true) : R5 T := ⟨(f.1 7 0 10 h1).trans (h.1.trans (f.1 8 0 0 h1).symm), by rw [f.2.2 27 0 h1, f.2.2 30 0 h1]; exact h.2⟩
theorem r6_fr (h : R6 S) (f : Fr p S T) (h1 : p 6 = true) : R6 T := ⟨(f.2.1 4 0 0 h1).trans (h.1.trans (f.2.1 8 0 3 h1).symm), (f.2.1 4 0 1 h1).trans (h.2.trans (f.2.1 8 0 4 h1).symm)⟩
theorem rr_fs (h : Rr S) (f : Fs S T) : Rr T := by
  obtain ⟨⟨_, _, a⟩, ⟨_, _, b⟩, ⟨_, _, _, c⟩, e, g, i⟩ := h
  exact ⟨⟨_, _, r1_fr a f rfl⟩, ⟨_, _, r2_fr b f rfl⟩, ⟨_, _, _, r3_fr c f rfl rfl rfl⟩, r4_fr e f rfl, r5_fr g f rfl, r6_fr i f rfl⟩
theorem rr_1 (h : Rr S) (f : Fr (pN 1) S T) (h1 : R1 T rs rc) : Rr T := by
  obtain ⟨⟨_, _, a⟩, ⟨_, _, b⟩, ⟨_, _, _, c⟩, e, g, i⟩ := h
  exact ⟨⟨_, _, h1⟩, ⟨_, _, r2_fr b f rfl⟩, ⟨_, _, _, r3_fr c f rfl rfl rfl⟩, r4_fr e f rfl, r5_fr g f rfl, r6_fr i f rfl⟩
theorem rr_2 (h : Rr S) (f : Fr (pN 2) S T) (h1 : R2 T rs rc) : Rr T := by
  obtain ⟨⟨_, _, a⟩, ⟨_, _, b⟩, ⟨_, _, _, c⟩, e, g, i⟩ := h
  exact ⟨⟨_, _, r1_fr a f rfl⟩, ⟨_, _, h1⟩, ⟨_, _, _, r3_fr c f rfl rfl rfl⟩, r4_fr e f rfl, r5_fr g f rfl, r6_fr i f rfl⟩
theorem rr_3 (h : Rr S) (f : Fr p3 S T) (h1 : R3 T Y0 as kp) : Rr T := by
  obtain ⟨⟨_, _, a⟩, ⟨_, _, b⟩, ⟨_, _, _, c⟩, e, g, i⟩ := h
  exact ⟨⟨_, _, r1_fr a f rfl⟩, ⟨_, _, r2_fr b f rfl⟩, ⟨_, _, _, h1⟩, r4_fr e f rfl, r5_fr g f rfl, r6_fr i f rfl⟩
theorem rr_4 (h : Rr S) (f : Fr (pN 4) S T) (h1 : R4 T) : Rr T := by
  obtain ⟨⟨_, _, a⟩, ⟨_, _, b⟩, ⟨_, _, _, c⟩, e, g, i⟩ := h
  exact ⟨⟨_, _, r1_fr a f rfl⟩, ⟨_, _, r2_fr b f rfl⟩, ⟨_, _, _, r3_fr c f rfl rfl rfl⟩, h1, r5_fr g f rfl, r6_fr i f rfl⟩
theorem rr_5 (h : Rr S) (f : Fr (pN 5) S T) (h1 : R5 T) : Rr T := by
  obtain ⟨⟨_, _, a⟩, ⟨_, _, b⟩, ⟨_, _, _, c⟩, e, g, i⟩ := h
  exact ⟨⟨_, _, r1_fr a f rfl⟩, ⟨_, _, r2_fr b f rfl⟩, ⟨_, _, _, r3_fr c f rfl rfl rfl⟩, r4_fr e f rfl, h1, r6_fr i f rfl⟩
theorem rr_6 (h : Rr S) (f : Fr (pN 6) S T) (h1 : R6 T) : Rr T := by
  obtain ⟨⟨_, _, a⟩, ⟨_, _, b⟩, ⟨_, _, _, c⟩, e, g, i⟩ := h
  exact ⟨⟨_, _, r1_fr a f rfl⟩, ⟨_, _, r2_fr b f rfl⟩, ⟨_, _, _, r3_fr c f rfl rfl rfl⟩, r4_fr e f rfl, r5_fr g f rfl, h1⟩
/-- both tell v -/
theorem r_tell {v : Int32} (h : Rr S) (f : Fs (sI S 7 0 11 v) T) : Rr (sI T 8 0 2 v) :=
  rr_4 h (((fr_sI rfl).trans f.pn).trans (fr_sI rfl)) (by
    show gI (sI T 8 0 2 v) 7 0 11 = gI (sI T 8 0 2 v) 8 0 2
    rw [gI_sI, gI_sI, if_neg (by decide), if_pos ⟨rfl, rfl, rfl⟩, f.1 7 0 11 rfl, gI_sI, if_pos ⟨rfl, rfl, rfl⟩])
def xRef (f : Nat) (S : MS) : MS := sA (sI S 7 0 10 (nI f)) 27 0 (upd (gA S 27 0) f (gA S 27 0 f + nI 1))
def mRef (f : Nat) (S : MS) : MS := sA (sI S 8 0 0 (nI f)) 30 0 (upd (gA S 30 0) f (gA S 30 0 f + nI 1))
/-- both answer a finding -/
theorem r_ref {f : Nat} (h : Rr S) (hf : f < 6) (q : Fs (xRef f S) T) : Rr (mRef f T) := by
  have a : Fr (pN 5) S (xRef f S) := (fr_sI rfl).trans (fr_sA rfl)
  have b : Fr (pN 5) T (mRef f T) := (fr_sI rfl).trans (fr_sA rfl)
  refine rr_5 h ((a.trans q.pn).trans b) ⟨?_, fun g hg => ?_⟩
  · show gI T 7 0 10 = nI f
    rw [q.1 7 0 10 rfl]
    rfl
  · have e1 : gA (mRef f T) 27 0 = gA T 27 0 := rfl
    have e2 : gA (mRef f T) 30 0 = upd (gA T 30 0) f (gA T 30 0 f + nI 1) := rfl
    have e3 : gA (xRef f S) 27 0 = upd (gA S 27 0) f (gA S 27 0 f + nI 1) := rfl
    have e4 : gA (xRef f S) 30 0 = gA S 30 0 := rfl
    rw [e1, e2, q.2.2 27 0 rfl, q.2.2 30 0 rfl, e3, e4]
    obtain ⟨-, -, -, -, ⟨-, h5⟩, -⟩ := h
    unfold upd
    split
    · rw [h5 f hf]
    · exact h5 g hg
end
/-- what is owed of a call: the class's answer, then the reference's, and the relation again -/
def PM (z : Int32) : Option AV → MS → Prop := fun v S => v = some (aI z) ∧ Rr S
def PX (d m : Nat) (as : List AV) : Option AV → MS → Prop := fun v S => ∃ z, v = some (aI z) ∧ wpM (d + 10) m (aR 8 0 :: as) S (PM z)
def PML (z : Int64) : Option AV → MS → Prop := fun v S => v = some (aL z) ∧ Rr S
def PXL (d m : Nat) (as : List AV) : Option AV → MS → Prop := fun v S => ∃ z, v = some (aL z) ∧ wpM (d + 10) m (aR 8 0 :: as) S (PML z)
theorem px {d m : Nat} {as : List AV} {z : Int32} {S : MS} (h : wpM (d + 10) m (aR 8 0 :: as) S (PM z)) : PX d m as (some (aI z)) S := ⟨z, rfl, h⟩
theorem pxL {d m : Nat} {as : List AV} {z : Int64} {S : MS} (h : wpM (d + 10) m (aR 8 0 :: as) S (PML z)) : PXL d m as (some (aL z)) S := ⟨z, rfl, h⟩
theorem pm {z : Int32} {S : MS} (h : Rr S) : PM z (some (aI z)) S := ⟨rfl, h⟩
theorem pmE {z w : Int32} {S : MS} (e : w = z) (h : Rr S) : PM z (some (aI w)) S := ⟨by rw [e], h⟩
theorem pmL {z : Int64} {S : MS} (h : Rr S) : PML z (some (aL z)) S := ⟨rfl, h⟩
theorem pmLE {z w : Int64} {S : MS} (e : w = z) (h : Rr S) : PML z (some (aL w)) S := ⟨by rw [e], h⟩
-- facts of a year in the class's cells, as simp wants them
section
variable {S : MS} {j : Nat} {Y : Nat → Nat → Nat}
theorem y_n (h : YrX S j Y) : gI S 6 j 7 = nI (Y 6 0) := h.2 0 (by decide)
theorem y_day (h : YrX S j Y) : gI S 6 j 8 = nI (Y 6 1) := h.2 1 (by decide)
theorem y_will (h : YrX S j Y) : gI S 6 j 9 = nI (Y 6 2) := h.2 2 (by decide)
theorem y_offs (h : YrX S j Y) : gI S 6 j 10 = nI (Y 6 3) := h.2 3 (by decide)
theorem y_gone (h : YrX S j Y) : gI S 6 j 11 = nI (Y 6 4) := h.2 4 (by decide)
theorem y_kind (h : YrX S j Y) {i : Nat} (hi : i < 5) : gA S 20 j i = nI (Y 0 i) := h.1 0 (by decide) i hi
theorem y_eff (h : YrX S j Y) {i : Nat} (hi : i < 5) : gA S 21 j i = nI (Y 1 i) := h.1 1 (by decide) i hi
theorem y_hab (h : YrX S j Y) {i : Nat} (hi : i < 5) : gA S 22 j i = nI (Y 2 i) := h.1 2 (by decide) i hi
theorem y_pull (h : YrX S j Y) {i : Nat} (hi : i < 5) : gA S 23 j i = nI (Y 3 i) := h.1 3 (by decide) i hi
theorem y_ch (h : YrX S j Y) {i : Nat} (hi : i < 5) : gA S 24 j i = nI (Y 4 i) := h.1 4 (by decide) i hi
theorem y_times (h : YrX S j Y) {i : Nat} (hi : i < 5) : gA S 25 j i = nI (Y 5 i) := h.1 5 (by decide) i hi
variable {k : Nat}
theorem m_n (h : YrM S k Y) : gI S 8 0 10 = nI (Y 6 0) := h.1.1
theorem m_kind (h : YrM S k Y) {i : Nat} (hi : i < Y 6 0) : gA S 36 0 i = nI (Y 0 i) := (h.1.2 i hi).1
theorem m_eff (h : YrM S k Y) {i : Nat} (hi : i < Y 6 0) : gA S 37 0 i = nI (Y 1 i) := (h.1.2 i hi).2.1
theorem m_pull (h : YrM S k Y) {i : Nat} (hi : i < Y 6 0) : gA S 38 0 i = nI (Y 3 i) := (h.1.2 i hi).2.2
theorem m_day (h : YrM S k Y) : gA S k 0 0 = nI (Y 6 1) := h.2.1.1
theorem m_will (h : YrM S k Y) : gA S k 0 1 = nI (Y 6 2) := h.2.1.2.1
theorem m_offs (h : YrM S k Y) : gA S k 0 2 = nI (Y 6 3) := h.2.1.2.2.1
theorem m_gone (h : YrM S k Y) : gA S k 0 3 = nI (Y 6 4) := h.2.1.2.2.2
theorem m_hab (h : YrM S k Y) {i : Nat} (hi : i < Y 6 0) : gA S k 0 (4 + i) = nI (Y 2 i) := by
  have := (h.2.2 i hi).1
  rw [Nat.zero_add] at this
  exact this
theorem m_ch (h : YrM S k Y) {i : Nat} (hi : i < Y 6 0) : gA S k 0 (9 + i) = nI (Y 4 i) := by
  have := (h.2.2 i hi).2.1
  rw [Nat.zero_add] at this
  exact this
theorem m_times (h : YrM S k Y) {i : Nat} (hi : i < Y 6 0) : gA S k 0 (14 + i) = nI (Y 5 i) := by
  have := (h.2.2 i hi).2.2
  rw [Nat.zero_add] at this
  exact this
/-- the year as it is, on both sides -/
theorem r_year (h : Rr S) : ∃ Y, YrX S 1 Y ∧ YOk 40 Y ∧ YrM S 40 Y := by
  obtain ⟨-, -, ⟨Y0, as, kp, ⟨-, a, -⟩, ⟨b, -⟩, c, e, -⟩, -⟩ := h
  exact ⟨nwY Y0 as, a, YOk_mono (nwY_ok as 0 Y0 c e.2) (by have := e.1; omega), b⟩
end
-- the smallest shared methods
section
variable {d : Nat} {S : MS} {P : Option AV → MS → Prop}
theorem bz2 {b : Bool} : (b = false ∨ nI b.toNat = 1) = True := by
  cases b
  · exact eq_true (Or.inl rfl)
  · exact eq_true (Or.inr (by decide +kernel))
theorem c_isRow {r : Int32} (q : P (some (aI (nI (inB r 6).toNat))) S) : wpM (d + 1) mX8_isRow [aI r] S P := by
  have hq := inb_iff (r := r) (N := 6) (by decide)
  refine x_entry (ls2 := [aI r]) (Nat.le_of_ble_eq_true rfl) pl_8 rfl (Nat.le_of_ble_eq_true rfl) ?_
  refine s_X8_isRow_0 ?_
  simp (disch := omega) only [B_X8_isRow_0, wi_iload_n, wi_if_lt, wi_bipush, wi_icmp_ge, wi_iconst, wi_goto, no0, no1, nz1, nz2, nz3, nz4, nz5, nz7, nz8, Classical.not_not, bz0, bz1, wi_nil, ld_0, ld_s, isIv_I, isLv_L, isRv_R, true_and, and_true, lset_0, lset_1, lset_s, avw_I, avw_L, avw_R, clr_cons, clr_nil, kst_0, kst_1, kstL_0, kstL_1, addk_I, pA_0, pA_s, pD_0, pD_s, wid_nil, wid_cons, rcv_c, putv_I, putv_L, List.length_cons, List.length_nil, List.set_cons_zero, List.set_cons_succ, not_false_eq_true, Nat.reduceMod, Nat.reduceDiv, Nat.reduceEqDiff, Nat.reduceLT, Nat.reduceLeDiff, Nat.reduceAdd, Nat.reduceSub, reduceIte, Nat.lt_irrefl, Nat.zero_ne_one, Nat.one_ne_zero, Nat.zero_add, List.nil_append, List.cons_append, Option.toList_some, Option.toList_none, forall_const, false_implies, true_implies, false_or, or_false, true_or, or_true, i_le, i_lt, i_eq, i_eq0, i_lt0, i_0le, i_0lt, i_le0, i_in1, i_cl, nI_add, pk_mul, pk_sub, i_div, i_rem, i_sh1, i_bit, i_or, i_and, i_andn, nt_le, nf_le, nt_lt, nf_lt, nt_eq, nf_eq, not_true_eq_false, and_self, and_false, false_and, eq_self, Bool.toNat_true, Bool.toNat_false, i_bool, i_bool1, Bool.false_eq_true, Bool.true_eq_false, reduceCtorEq, i_neg1, i_neg2, i_neg3, i_neg4, i_neg5, i_neg6, i_neg7, i_neg8, i_neg9, i_nega, i_negb, i_negc, i_max2, i_min2]
  cases hb : inB r 6 <;> rw [hb] at q hq
  · have e : wpX d mX8_isRow 14 [aU] [] S P := by
      try simp (disch := omega) only [no0, no1, nz1, nz2, nz3, nz4, nz5, nz7, nz8, Classical.not_not, bz0, bz1, wi_nil, ld_0, ld_s, isIv_I, isLv_L, isRv_R, true_and, and_true, lset_0, lset_1, lset_s, avw_I, avw_L, avw_R, clr_cons, clr_nil, kst_0, kst_1, kstL_0, kstL_1, addk_I, pA_0, pA_s, pD_0, pD_s, wid_nil, wid_cons, rcv_c, putv_I, putv_L, List.length_cons, List.length_nil, List.set_cons_zero, List.set_cons_succ, not_false_eq_true, Nat.reduceMod, Nat.reduceDiv, Nat.reduceEqDiff, Nat.reduceLT, Nat.reduceLeDiff, Nat.reduceAdd, Nat.reduceSub, reduceIte, Nat.lt_irrefl, Nat.zero_ne_one, Nat.one_ne_zero, Nat.zero_add, List.nil_append, List.cons_append, Option.toList_some, Option.toList_none, forall_const, false_implies, true_implies, false_or, or_false, true_or, or_true, i_le, i_lt, i_eq, i_eq0, i_lt0, i_0le, i_0lt, i_le0, i_in1, i_cl, nI_add, pk_mul, pk_sub, i_div, i_rem, i_sh1, i_bit, i_or, i_and, i_andn, nt_le, nf_le, nt_lt, nf_lt, nt_eq, nf_eq, not_true_eq_false, and_self, and_false, false_and, eq_self, Bool.toNat_true, Bool.toNat_false, i_bool, i_bool1, Bool.false_eq_true, Bool.true_eq_false, reduceCtorEq, i_neg1, i_neg2, i_neg3, i_neg4, i_neg5, i_neg6, i_neg7, i_neg8, i_neg9, i_nega, i_negb, i_negc, i_max2, i_min2, wi_nil]
      repeat (
        first
        | refine s_X8_isRow_0 ?_
        | refine s_X8_isRow_14 ?_
        | refine s_X8_isRow_15 ?_
        simp (disch := omega) only [B_X8_isRow_0, wi_iload_n, wi_if_lt, wi_bipush, wi_icmp_ge, wi_iconst, wi_goto, B_X8_isRow_14, B_X8_isRow_15, wi_ireturn, no0, no1, nz1, nz2, nz3, nz4, nz5, nz7, nz8, Classical.not_not, bz0, bz1, wi_nil, ld_0, ld_s, isIv_I, isLv_L, isRv_R, true_and, and_true, lset_0, lset_1, lset_s, avw_I, avw_L, avw_R, clr_cons, clr_nil, kst_0, kst_1, kstL_0, kstL_1, addk_I, pA_0, pA_s, pD_0, pD_s, wid_nil, wid_cons, rcv_c, putv_I, putv_L, List.length_cons, List.length_nil, List.set_cons_zero, List.set_cons_succ, not_false_eq_true, Nat.reduceMod, Nat.reduceDiv, Nat.reduceEqDiff, Nat.reduceLT, Nat.reduceLeDiff, Nat.reduceAdd, Nat.reduceSub, reduceIte, Nat.lt_irrefl, Nat.zero_ne_one, Nat.one_ne_zero, Nat.zero_add, List.nil_append, List.cons_append, Option.toList_some, Option.toList_none, forall_const, false_implies, true_implies, false_or, or_false, true_or, or_true, i_le, i_lt, i_eq, i_eq0, i_lt0, i_0le, i_0lt, i_le0, i_in1, i_cl, nI_add, pk_mul, pk_sub, i_div, i_rem, i_sh1, i_bit, i_or, i_and, i_andn, nt_le, nf_le, nt_lt, nf_lt, nt_eq, nf_eq, not_true_eq_false, and_self, and_false, false_and, eq_self, Bool.toNat_true, Bool.toNat_false, i_bool, i_bool1, Bool.false_eq_true, Bool.true_eq_false, reduceCtorEq, i_neg1, i_neg2, i_neg3, i_neg4, i_neg5, i_neg6, i_neg7, i_neg8, i_neg9, i_nega, i_negb, i_negc, i_max2, i_min2])
      exact q
    refine ⟨fun _ => e, fun h1 => ⟨fun _ => e, fun h2 => ?_⟩⟩
    exact absurd (hq.mp ⟨h1, h2⟩) (by decide)
  · obtain ⟨h1, h2⟩ := hq.mpr rfl
    refine ⟨fun h => absurd h h1, fun _ => ⟨fun h => absurd h h2, fun _ => ?_⟩⟩
    try simp (disch := omega) only [no0, no1, nz1, nz2, nz3, nz4, nz5, nz7, nz8, Classical.not_not, bz0, bz1, wi_nil, ld_0, ld_s, isIv_I, isLv_L, isRv_R, true_and, and_true, lset_0, lset_1, lset_s, avw_I, avw_L, avw_R, clr_cons, clr_nil, kst_0, kst_1, kstL_0, kstL_1, addk_I, pA_0, pA_s, pD_0, pD_s, wid_nil, wid_cons, rcv_c, putv_I, putv_L, List.length_cons, List.length_nil, List.set_cons_zero, List.set_cons_succ, not_false_eq_true, Nat.reduceMod, Nat.reduceDiv, Nat.reduceEqDiff, Nat.reduceLT, Nat.reduceLeDiff, Nat.reduceAdd, Nat.reduceSub, reduceIte, Nat.lt_irrefl, Nat.zero_ne_one, Nat.one_ne_zero, Nat.zero_add, List.nil_append, List.cons_append, Option.toList_some, Option.toList_none, forall_const, false_implies, true_implies, false_or, or_false, true_or, or_true, i_le, i_lt, i_eq, i_eq0, i_lt0, i_0le, i_0lt, i_le0, i_in1, i_cl, nI_add, pk_mul, pk_sub, i_div, i_rem, i_sh1, i_bit, i_or, i_and, i_andn, nt_le, nf_le, nt_lt, nf_lt, nt_eq, nf_eq, not_true_eq_false, and_self, and_false, false_and, eq_self, Bool.toNat_true, Bool.toNat_false, i_bool, i_bool1, Bool.false_eq_true, Bool.true_eq_false, reduceCtorEq, i_neg1, i_neg2, i_neg3, i_neg4, i_neg5, i_neg6, i_neg7, i_neg8, i_neg9, i_nega, i_negb, i_negc, i_max2, i_min2, wi_nil]
    repeat (
      first
      | refine s_X8_isRow_0 ?_
      | refine s_X8_isRow_14 ?_
      | refine s_X8_isRow_15 ?_
      simp (disch := omega) only [B_X8_isRow_0, wi_iload_n, wi_if_lt, wi_bipush, wi_icmp_ge, wi_iconst, wi_goto, B_X8_isRow_14, B_X8_isRow_15, wi_ireturn, no0, no1, nz1, nz2, nz3, nz4, nz5, nz7, nz8, Classical.not_not, bz0, bz1, wi_nil, ld_0, ld_s, isIv_I, isLv_L, isRv_R, true_and, and_true, lset_0, lset_1, lset_s, avw_I, avw_L, avw_R, clr_cons, clr_nil, kst_0, kst_1, kstL_0, kstL_1, addk_I, pA_0, pA_s, pD_0, pD_s, wid_nil, wid_cons, rcv_c, putv_I, putv_L, List.length_cons, List.length_nil, List.set_cons_zero, List.set_cons_succ, not_false_eq_true, Nat.reduceMod, Nat.reduceDiv, Nat.reduceEqDiff, Nat.reduceLT, Nat.reduceLeDiff, Nat.reduceAdd, Nat.reduceSub, reduceIte, Nat.lt_irrefl, Nat.zero_ne_one, Nat.one_ne_zero, Nat.zero_add, List.nil_append, List.cons_append, Option.toList_some, Option.toList_none, forall_const, false_implies, true_implies, false_or, or_false, true_or, or_true, i_le, i_lt, i_eq, i_eq0, i_lt0, i_0le, i_0lt, i_le0, i_in1, i_cl, nI_add, pk_mul, pk_sub, i_div, i_rem, i_sh1, i_bit, i_or, i_and, i_andn, nt_le, nf_le, nt_lt, nf_lt, nt_eq, nf_eq, not_true_eq_false, and_self, and_false, false_and, eq_self, Bool.toNat_true, Bool.toNat_false, i_bool, i_bool1, Bool.false_eq_true, Bool.true_eq_false, reduceCtorEq, i_neg1, i_neg2, i_neg3, i_neg4, i_neg5, i_neg6, i_neg7, i_neg8, i_neg9, i_nega, i_negb, i_negc, i_max2, i_min2])
    exact q
theorem c_isText {r : Int32} (q : P (some (aI (nI (inB r 4).toNat))) S) : wpM (d + 1) mX8_isText [aI r] S P := by
  have hq := inb_iff (r := r) (N := 4) (by decide)
  refine x_entry (ls2 := [aI r]) (Nat.le_of_ble_eq_true rfl) pl_8 rfl (Nat.le_of_ble_eq_true rfl) ?_
  refine s_X8_isText_0 ?_
  simp (disch := omega) only [B_X8_isText_0, wi_iload_n, wi_if_lt, wi_iconst, wi_icmp_ge, wi_goto, no0, no1, nz1, nz2, nz3, nz4, nz5, nz7, nz8, Classical.not_not, bz0, bz1, wi_nil, ld_0, ld_s, isIv_I, isLv_L, isRv_R, true_and, and_true, lset_0, lset_1, lset_s, avw_I, avw_L, avw_R, clr_cons, clr_nil, kst_0, kst_1, kstL_0, kstL_1, addk_I, pA_0, pA_s, pD_0, pD_s, wid_nil, wid_cons, rcv_c, putv_I, putv_L, List.length_cons, List.length_nil, List.set_cons_zero, List.set_cons_succ, not_false_eq_true, Nat.reduceMod, Nat.reduceDiv, Nat.reduceEqDiff, Nat.reduceLT, Nat.reduceLeDiff, Nat.reduceAdd, Nat.reduceSub, reduceIte, Nat.lt_irrefl, Nat.zero_ne_one, Nat.one_ne_zero, Nat.zero_add, List.nil_append, List.cons_append, Option.toList_some, Option.toList_none, forall_const, false_implies, true_implies, false_or, or_false, true_or, or_true, i_le, i_lt, i_eq, i_eq0, i_lt0, i_0le, i_0lt, i_le0, i_in1, i_cl, nI_add, pk_mul, pk_sub, i_div, i_rem, i_sh1, i_bit, i_or, i_and, i_andn, nt_le, nf_le, nt_lt, nf_lt, nt_eq, nf_eq, not_true_eq_false, and_self, and_false, false_and, eq_self, Bool.toNat_true, Bool.toNat_false, i_bool, i_bool1, Bool.false_eq_true, Bool.true_eq_false, reduceCtorEq, i_neg1, i_neg2, i_neg3, i_neg4, i_neg5, i_neg6, i_neg7, i_neg8, i_neg9, i_nega, i_negb, i_negc, i_max2, i_min2]
  cases hb : inB r 4 <;> rw [hb] at q hq
  · have e : wpX d mX8_isText 13 [aU] [] S P := by
      try simp (disch := omega) only [no0, no1, nz1, nz2, nz3, nz4, nz5, nz7, nz8, Classical.not_not, bz0, bz1, wi_nil, ld_0, ld_s, isIv_I, isLv_L, isRv_R, true_and, and_true, lset_0, lset_1, lset_s, avw_I, avw_L, avw_R, clr_cons, clr_nil, kst_0, kst_1, kstL_0, kstL_1, addk_I, pA_0, pA_s, pD_0, pD_s, wid_nil, wid_cons, rcv_c, putv_I, putv_L, List.length_cons, List.length_nil, List.set_cons_zero, List.set_cons_succ, not_false_eq_true, Nat.reduceMod, Nat.reduceDiv, Nat.reduceEqDiff, Nat.reduceLT, Nat.reduceLeDiff, Nat.reduceAdd, Nat.reduceSub, reduceIte, Nat.lt_irrefl, Nat.zero_ne_one, Nat.one_ne_zero, Nat.zero_add, List.nil_append, List.cons_append, Option.toList_some, Option.toList_none, forall_const, false_implies, true_implies, false_or, or_false, true_or, or_true, i_le, i_lt, i_eq, i_eq0, i_lt0, i_0le, i_0lt, i_le0, i_in1, i_cl, nI_add, pk_mul, pk_sub, i_div, i_rem, i_sh1, i_bit, i_or, i_and, i_andn, nt_le, nf_le, nt_lt, nf_lt, nt_eq, nf_eq, not_true_eq_false, and_self, and_false, false_and, eq_self, Bool.toNat_true, Bool.toNat_false, i_bool, i_bool1, Bool.false_eq_true, Bool.true_eq_false, reduceCtorEq, i_neg1, i_neg2, i_neg3, i_neg4, i_neg5, i_neg6, i_neg7, i_neg8, i_neg9, i_nega, i_negb, i_negc, i_max2, i_min2, wi_nil]
      repeat (
        first
        | refine s_X8_isText_0 ?_
        | refine s_X8_isText_13 ?_
        | refine s_X8_isText_14 ?_
        simp (disch := omega) only [B_X8_isText_0, wi_iload_n, wi_if_lt, wi_iconst, wi_icmp_ge, wi_goto, B_X8_isText_13, B_X8_isText_14, wi_ireturn, no0, no1, nz1, nz2, nz3, nz4, nz5, nz7, nz8, Classical.not_not, bz0, bz1, wi_nil, ld_0, ld_s, isIv_I, isLv_L, isRv_R, true_and, and_true, lset_0, lset_1, lset_s, avw_I, avw_L, avw_R, clr_cons, clr_nil, kst_0, kst_1, kstL_0, kstL_1, addk_I, pA_0, pA_s, pD_0, pD_s, wid_nil, wid_cons, rcv_c, putv_I, putv_L, List.length_cons, List.length_nil, List.set_cons_zero, List.set_cons_succ, not_false_eq_true, Nat.reduceMod, Nat.reduceDiv, Nat.reduceEqDiff, Nat.reduceLT, Nat.reduceLeDiff, Nat.reduceAdd, Nat.reduceSub, reduceIte, Nat.lt_irrefl, Nat.zero_ne_one, Nat.one_ne_zero, Nat.zero_add, List.nil_append, List.cons_append, Option.toList_some, Option.toList_none, forall_const, false_implies, true_implies, false_or, or_false, true_or, or_true, i_le, i_lt, i_eq, i_eq0, i_lt0, i_0le, i_0lt, i_le0, i_in1, i_cl, nI_add, pk_mul, pk_sub, i_div, i_rem, i_sh1, i_bit, i_or, i_and, i_andn, nt_le, nf_le, nt_lt, nf_lt, nt_eq, nf_eq, not_true_eq_false, and_self, and_false, false_and, eq_self, Bool.toNat_true, Bool.toNat_false, i_bool, i_bool1, Bool.false_eq_true, Bool.true_eq_false, reduceCtorEq, i_neg1, i_neg2, i_neg3, i_neg4, i_neg5, i_neg6, i_neg7, i_neg8, i_neg9, i_nega, i_negb, i_negc, i_max2, i_min2])
      exact q
    refine ⟨fun _ => e, fun h1 => ⟨fun _ => e, fun h2 => ?_⟩⟩
    exact absurd (hq.mp ⟨h1, h2⟩) (by decide)
  · obtain ⟨h1, h2⟩ := hq.mpr rfl
    refine ⟨fun h => absurd h h1, fun _ => ⟨fun h => absurd h h2, fun _ => ?_⟩⟩
    try simp (disch := omega) only [no0, no1, nz1, nz2, nz3, nz4, nz5, nz7, nz8, Classical.not_not, bz0, bz1, wi_nil, ld_0, ld_s, isIv_I, isLv_L, isRv_R, true_and, and_true, lset_0, lset_1, lset_s, avw_I, avw_L, avw_R, clr_cons, clr_nil, kst_0, kst_1, kstL_0, kstL_1, addk_I, pA_0, pA_s, pD_0, pD_s, wid_nil, wid_cons, rcv_c, putv_I, putv_L, List.length_cons, List.length_nil, List.set_cons_zero, List.set_cons_succ, not_false_eq_true, Nat.reduceMod, Nat.reduceDiv, Nat.reduceEqDiff, Nat.reduceLT, Nat.reduceLeDiff, Nat.reduceAdd, Nat.reduceSub, reduceIte, Nat.lt_irrefl, Nat.zero_ne_one, Nat.one_ne_zero, Nat.zero_add, List.nil_append, List.cons_append, Option.toList_some, Option.toList_none, forall_const, false_implies, true_implies, false_or, or_false, true_or, or_true, i_le, i_lt, i_eq, i_eq0, i_lt0, i_0le, i_0lt, i_le0, i_in1, i_cl, nI_add, pk_mul, pk_sub, i_div, i_rem, i_sh1, i_bit, i_or, i_and, i_andn, nt_le, nf_le, nt_lt, nf_lt, nt_eq, nf_eq, not_true_eq_false, and_self, and_false, false_and, eq_self, Bool.toNat_true, Bool.toNat_false, i_bool, i_bool1, Bool.false_eq_true, Bool.true_eq_false, reduceCtorEq, i_neg1, i_neg2, i_neg3, i_neg4, i_neg5, i_neg6, i_neg7, i_neg8, i_neg9, i_nega, i_negb, i_negc, i_max2, i_min2, wi_nil]
    repeat (
      first
      | refine s_X8_isText_0 ?_
      | refine s_X8_isText_13 ?_
      | refine s_X8_isText_14 ?_
      simp (disch := omega) only [B_X8_isText_0, wi_iload_n, wi_if_lt, wi_iconst, wi_icmp_ge, wi_goto, B_X8_isText_13, B_X8_isText_14, wi_ireturn, no0, no1, nz1, nz2, nz3, nz4, nz5, nz7, nz8, Classical.not_not, bz0, bz1, wi_nil, ld_0, ld_s, isIv_I, isLv_L, isRv_R, true_and, and_true, lset_0, lset_1, lset_s, avw_I, avw_L, avw_R, clr_cons, clr_nil, kst_0, kst_1, kstL_0, kstL_1, addk_I, pA_0, pA_s, pD_0, pD_s, wid_nil, wid_cons, rcv_c, putv_I, putv_L, List.length_cons, List.length_nil, List.set_cons_zero, List.set_cons_succ, not_false_eq_true, Nat.reduceMod, Nat.reduceDiv, Nat.reduceEqDiff, Nat.reduceLT, Nat.reduceLeDiff, Nat.reduceAdd, Nat.reduceSub, reduceIte, Nat.lt_irrefl, Nat.zero_ne_one, Nat.one_ne_zero, Nat.zero_add, List.nil_append, List.cons_append, Option.toList_some, Option.toList_none, forall_const, false_implies, true_implies, false_or, or_false, true_or, or_true, i_le, i_lt, i_eq, i_eq0, i_lt0, i_0le, i_0lt, i_le0, i_in1, i_cl, nI_add, pk_mul, pk_sub, i_div, i_rem, i_sh1, i_bit, i_or, i_and, i_andn, nt_le, nf_le, nt_lt, nf_lt, nt_eq, nf_eq, not_true_eq_false, and_self, and_false, false_and, eq_self, Bool.toNat_true, Bool.toNat_false, i_bool, i_bool1, Bool.false_eq_true, Bool.true_eq_false, reduceCtorEq, i_neg1, i_neg2, i_neg3, i_neg4, i_neg5, i_neg6, i_neg7, i_neg8, i_neg9, i_nega, i_negb, i_negc, i_max2, i_min2])
    exact q
theorem c_isKept {r : Int32} (q : P (some (aI (nI (inB r 3).toNat))) S) : wpM (d + 1) mX8_isKeptPlace [aI r] S P := by
  have hq := inb_iff (r := r) (N := 3) (by decide)
  refine x_entry (ls2 := [aI r]) (Nat.le_of_ble_eq_true rfl) pl_8 rfl (Nat.le_of_ble_eq_true rfl) ?_
  refine s_X8_isKeptPlace_0 ?_
  simp (disch := omega) only [B_X8_isKeptPlace_0, wi_iload_n, wi_if_lt, wi_iconst, wi_icmp_ge, wi_goto, no0, no1, nz1, nz2, nz3, nz4, nz5, nz7, nz8, Classical.not_not, bz0, bz1, wi_nil, ld_0, ld_s, isIv_I, isLv_L, isRv_R, true_and, and_true, lset_0, lset_1, lset_s, avw_I, avw_L, avw_R, clr_cons, clr_nil, kst_0, kst_1, kstL_0, kstL_1, addk_I, pA_0, pA_s, pD_0, pD_s, wid_nil, wid_cons, rcv_c, putv_I, putv_L, List.length_cons, List.length_nil, List.set_cons_zero, List.set_cons_succ, not_false_eq_true, Nat.reduceMod, Nat.reduceDiv, Nat.reduceEqDiff, Nat.reduceLT, Nat.reduceLeDiff, Nat.reduceAdd, Nat.reduceSub, reduceIte, Nat.lt_irrefl, Nat.zero_ne_one, Nat.one_ne_zero, Nat.zero_add, List.nil_append, List.cons_append, Option.toList_some, Option.toList_none, forall_const, false_implies, true_implies, false_or, or_false, true_or, or_true, i_le, i_lt, i_eq, i_eq0, i_lt0, i_0le, i_0lt, i_le0, i_in1, i_cl, nI_add, pk_mul, pk_sub, i_div, i_rem, i_sh1, i_bit, i_or, i_and, i_andn, nt_le, nf_le, nt_lt, nf_lt, nt_eq, nf_eq, not_true_eq_false, and_self, and_false, false_and, eq_self, Bool.toNat_true, Bool.toNat_false, i_bool, i_bool1, Bool.false_eq_true, Bool.true_eq_false, reduceCtorEq, i_neg1, i_neg2, i_neg3, i_neg4, i_neg5, i_neg6, i_neg7, i_neg8, i_neg9, i_nega, i_negb, i_negc, i_max2, i_min2]
  cases hb : inB r 3 <;> rw [hb] at q hq
  · have e : wpX d mX8_isKeptPlace 13 [aU] [] S P := by
      try simp (disch := omega) only [no0, no1, nz1, nz2, nz3, nz4, nz5, nz7, nz8, Classical.not_not, bz0, bz1, wi_nil, ld_0, ld_s, isIv_I, isLv_L, isRv_R, true_and, and_true, lset_0, lset_1, lset_s, avw_I, avw_L, avw_R, clr_cons, clr_nil, kst_0, kst_1, kstL_0, kstL_1, addk_I, pA_0, pA_s, pD_0, pD_s, wid_nil, wid_cons, rcv_c, putv_I, putv_L, List.length_cons, List.length_nil, List.set_cons_zero, List.set_cons_succ, not_false_eq_true, Nat.reduceMod, Nat.reduceDiv, Nat.reduceEqDiff, Nat.reduceLT, Nat.reduceLeDiff, Nat.reduceAdd, Nat.reduceSub, reduceIte, Nat.lt_irrefl, Nat.zero_ne_one, Nat.one_ne_zero, Nat.zero_add, List.nil_append, List.cons_append, Option.toList_some, Option.toList_none, forall_const, false_implies, true_implies, false_or, or_false, true_or, or_true, i_le, i_lt, i_eq, i_eq0, i_lt0, i_0le, i_0lt, i_le0, i_in1, i_cl, nI_add, pk_mul, pk_sub, i_div, i_rem, i_sh1, i_bit, i_or, i_and, i_andn, nt_le, nf_le, nt_lt, nf_lt, nt_eq, nf_eq, not_true_eq_false, and_self, and_false, false_and, eq_self, Bool.toNat_true, Bool.toNat_false, i_bool, i_bool1, Bool.false_eq_true, Bool.true_eq_false, reduceCtorEq, i_neg1, i_neg2, i_neg3, i_neg4, i_neg5, i_neg6, i_neg7, i_neg8, i_neg9, i_nega, i_negb, i_negc, i_max2, i_min2, wi_nil]
      repeat (
        first
        | refine s_X8_isKeptPlace_0 ?_
        | refine s_X8_isKeptPlace_13 ?_
        | refine s_X8_isKeptPlace_14 ?_
        simp (disch := omega) only [B_X8_isKeptPlace_0, wi_iload_n, wi_if_lt, wi_iconst, wi_icmp_ge, wi_goto, B_X8_isKeptPlace_13, B_X8_isKeptPlace_14, wi_ireturn, no0, no1, nz1, nz2, nz3, nz4, nz5, nz7, nz8, Classical.not_not, bz0, bz1, wi_nil, ld_0, ld_s, isIv_I, isLv_L, isRv_R, true_and, and_true, lset_0, lset_1, lset_s, avw_I, avw_L, avw_R, clr_cons, clr_nil, kst_0, kst_1, kstL_0, kstL_1, addk_I, pA_0, pA_s, pD_0, pD_s, wid_nil, wid_cons, rcv_c, putv_I, putv_L, List.length_cons, List.length_nil, List.set_cons_zero, List.set_cons_succ, not_false_eq_true, Nat.reduceMod, Nat.reduceDiv, Nat.reduceEqDiff, Nat.reduceLT, Nat.reduceLeDiff, Nat.reduceAdd, Nat.reduceSub, reduceIte, Nat.lt_irrefl, Nat.zero_ne_one, Nat.one_ne_zero, Nat.zero_add, List.nil_append, List.cons_append, Option.toList_some, Option.toList_none, forall_const, false_implies, true_implies, false_or, or_false, true_or, or_true, i_le, i_lt, i_eq, i_eq0, i_lt0, i_0le, i_0lt, i_le0, i_in1, i_cl, nI_add, pk_mul, pk_sub, i_div, i_rem, i_sh1, i_bit, i_or, i_and, i_andn, nt_le, nf_le, nt_lt, nf_lt, nt_eq, nf_eq, not_true_eq_false, and_self, and_false, false_and, eq_self, Bool.toNat_true, Bool.toNat_false, i_bool, i_bool1, Bool.false_eq_true, Bool.true_eq_false, reduceCtorEq, i_neg1, i_neg2, i_neg3, i_neg4, i_neg5, i_neg6, i_neg7, i_neg8, i_neg9, i_nega, i_negb, i_negc, i_max2, i_min2])
      exact q
    refine ⟨fun _ => e, fun h1 => ⟨fun _ => e, fun h2 => ?_⟩⟩
    exact absurd (hq.mp ⟨h1, h2⟩) (by decide)
  · obtain ⟨h1, h2⟩ := hq.mpr rfl
    refine ⟨fun h => absurd h h1, fun _ => ⟨fun h => absurd h h2, fun _ => ?_⟩⟩
    try simp (disch := omega) only [no0, no1, nz1, nz2, nz3, nz4, nz5, nz7, nz8, Classical.not_not, bz0, bz1, wi_nil, ld_0, ld_s, isIv_I, isLv_L, isRv_R, true_and, and_true, lset_0, lset_1, lset_s, avw_I, avw_L, avw_R, clr_cons, clr_nil, kst_0, kst_1, kstL_0, kstL_1, addk_I, pA_0, pA_s, pD_0, pD_s, wid_nil, wid_cons, rcv_c, putv_I, putv_L, List.length_cons, List.length_nil, List.set_cons_zero, List.set_cons_succ, not_false_eq_true, Nat.reduceMod, Nat.reduceDiv, Nat.reduceEqDiff, Nat.reduceLT, Nat.reduceLeDiff, Nat.reduceAdd, Nat.reduceSub, reduceIte, Nat.lt_irrefl, Nat.zero_ne_one, Nat.one_ne_zero, Nat.zero_add, List.nil_append, List.cons_append, Option.toList_some, Option.toList_none, forall_const, false_implies, true_implies, false_or, or_false, true_or, or_true, i_le, i_lt, i_eq, i_eq0, i_lt0, i_0le, i_0lt, i_le0, i_in1, i_cl, nI_add, pk_mul, pk_sub, i_div, i_rem, i_sh1, i_bit, i_or, i_and, i_andn, nt_le, nf_le, nt_lt, nf_lt, nt_eq, nf_eq, not_true_eq_false, and_self, and_false, false_and, eq_self, Bool.toNat_true, Bool.toNat_false, i_bool, i_bool1, Bool.false_eq_true, Bool.true_eq_false, reduceCtorEq, i_neg1, i_neg2, i_neg3, i_neg4, i_neg5, i_neg6, i_neg7, i_neg8, i_neg9, i_nega, i_negb, i_negc, i_max2, i_min2, wi_nil]
    repeat (
      first
      | refine s_X8_isKeptPlace_0 ?_
      | refine s_X8_isKeptPlace_13 ?_
      | refine s_X8_isKeptPlace_14 ?_
      simp (disch := omega) only [B_X8_isKeptPlace_0, wi_iload_n, wi_if_lt, wi_iconst, wi_icmp_ge, wi_goto, B_X8_isKeptPlace_13, B_X8_isKeptPlace_14, wi_ireturn, no0, no1, nz1, nz2, nz3, nz4, nz5, nz7, nz8, Classical.not_not, bz0, bz1, wi_nil, ld_0, ld_s, isIv_I, isLv_L, isRv_R, true_and, and_true, lset_0, lset_1, lset_s, avw_I, avw_L, avw_R, clr_cons, clr_nil, kst_0, kst_1, kstL_0, kstL_1, addk_I, pA_0, pA_s, pD_0, pD_s, wid_nil, wid_cons, rcv_c, putv_I, putv_L, List.length_cons, List.length_nil, List.set_cons_zero, List.set_cons_succ, not_false_eq_true, Nat.reduceMod, Nat.reduceDiv, Nat.reduceEqDiff, Nat.reduceLT, Nat.reduceLeDiff, Nat.reduceAdd, Nat.reduceSub, reduceIte, Nat.lt_irrefl, Nat.zero_ne_one, Nat.one_ne_zero, Nat.zero_add, List.nil_append, List.cons_append, Option.toList_some, Option.toList_none, forall_const, false_implies, true_implies, false_or, or_false, true_or, or_true, i_le, i_lt, i_eq, i_eq0, i_lt0, i_0le, i_0lt, i_le0, i_in1, i_cl, nI_add, pk_mul, pk_sub, i_div, i_rem, i_sh1, i_bit, i_or, i_and, i_andn, nt_le, nf_le, nt_lt, nf_lt, nt_eq, nf_eq, not_true_eq_false, and_self, and_false, false_and, eq_self, Bool.toNat_true, Bool.toNat_false, i_bool, i_bool1, Bool.false_eq_true, Bool.true_eq_false, reduceCtorEq, i_neg1, i_neg2, i_neg3, i_neg4, i_neg5, i_neg6, i_neg7, i_neg8, i_neg9, i_nega, i_negb, i_negc, i_max2, i_min2])
    exact q
theorem c_isRule {r : Int32} (q : P (some (aI (nI (inB r 4).toNat))) S) : wpM (d + 1) mX8_isRule [aI r] S P := by
  have hq := inb_iff (r := r) (N := 4) (by decide)
  refine x_entry (ls2 := [aI r]) (Nat.le_of_ble_eq_true rfl) pl_8 rfl (Nat.le_of_ble_eq_true rfl) ?_
  refine s_X8_isRule_0 ?_
  simp (disch := omega) only [B_X8_isRule_0, wi_iload_n, wi_if_lt, wi_iconst, wi_icmp_ge, wi_goto, no0, no1, nz1, nz2, nz3, nz4, nz5, nz7, nz8, Classical.not_not, bz0, bz1, wi_nil, ld_0, ld_s, isIv_I, isLv_L, isRv_R, true_and, and_true, lset_0, lset_1, lset_s, avw_I, avw_L, avw_R, clr_cons, clr_nil, kst_0, kst_1, kstL_0, kstL_1, addk_I, pA_0, pA_s, pD_0, pD_s, wid_nil, wid_cons, rcv_c, putv_I, putv_L, List.length_cons, List.length_nil, List.set_cons_zero, List.set_cons_succ, not_false_eq_true, Nat.reduceMod, Nat.reduceDiv, Nat.reduceEqDiff, Nat.reduceLT, Nat.reduceLeDiff, Nat.reduceAdd, Nat.reduceSub, reduceIte, Nat.lt_irrefl, Nat.zero_ne_one, Nat.one_ne_zero, Nat.zero_add, List.nil_append, List.cons_append, Option.toList_some, Option.toList_none, forall_const, false_implies, true_implies, false_or, or_false, true_or, or_true, i_le, i_lt, i_eq, i_eq0, i_lt0, i_0le, i_0lt, i_le0, i_in1, i_cl, nI_add, pk_mul, pk_sub, i_div, i_rem, i_sh1, i_bit, i_or, i_and, i_andn, nt_le, nf_le, nt_lt, nf_lt, nt_eq, nf_eq, not_true_eq_false, and_self, and_false, false_and, eq_self, Bool.toNat_true, Bool.toNat_false, i_bool, i_bool1, Bool.false_eq_true, Bool.true_eq_false, reduceCtorEq, i_neg1, i_neg2, i_neg3, i_neg4, i_neg5, i_neg6, i_neg7, i_neg8, i_neg9, i_nega, i_negb, i_negc, i_max2, i_min2]
  cases hb : inB r 4 <;> rw [hb] at q hq
  · have e : wpX d mX8_isRule 13 [aU] [] S P := by
      try simp (disch := omega) only [no0, no1, nz1, nz2, nz3, nz4, nz5, nz7, nz8, Classical.not_not, bz0, bz1, wi_nil, ld_0, ld_s, isIv_I, isLv_L, isRv_R, true_and, and_true, lset_0, lset_1, lset_s, avw_I, avw_L, avw_R, clr_cons, clr_nil, kst_0, kst_1, kstL_0, kstL_1, addk_I, pA_0, pA_s, pD_0, pD_s, wid_nil, wid_cons, rcv_c, putv_I, putv_L, List.length_cons, List.length_nil, List.set_cons_zero, List.set_cons_succ, not_false_eq_true, Nat.reduceMod, Nat.reduceDiv, Nat.reduceEqDiff, Nat.reduceLT, Nat.reduceLeDiff, Nat.reduceAdd, Nat.reduceSub, reduceIte, Nat.lt_irrefl, Nat.zero_ne_one, Nat.one_ne_zero, Nat.zero_add, List.nil_append, List.cons_append, Option.toList_some, Option.toList_none, forall_const, false_implies, true_implies, false_or, or_false, true_or, or_true, i_le, i_lt, i_eq, i_eq0, i_lt0, i_0le, i_0lt, i_le0, i_in1, i_cl, nI_add, pk_mul, pk_sub, i_div, i_rem, i_sh1, i_bit, i_or, i_and, i_andn, nt_le, nf_le, nt_lt, nf_lt, nt_eq, nf_eq, not_true_eq_false, and_self, and_false, false_and, eq_self, Bool.toNat_true, Bool.toNat_false, i_bool, i_bool1, Bool.false_eq_true, Bool.true_eq_false, reduceCtorEq, i_neg1, i_neg2, i_neg3, i_neg4, i_neg5, i_neg6, i_neg7, i_neg8, i_neg9, i_nega, i_negb, i_negc, i_max2, i_min2, wi_nil]
      repeat (
        first
        | refine s_X8_isRule_0 ?_
        | refine s_X8_isRule_13 ?_
        | refine s_X8_isRule_14 ?_
        simp (disch := omega) only [B_X8_isRule_0, wi_iload_n, wi_if_lt, wi_iconst, wi_icmp_ge, wi_goto, B_X8_isRule_13, B_X8_isRule_14, wi_ireturn, no0, no1, nz1, nz2, nz3, nz4, nz5, nz7, nz8, Classical.not_not, bz0, bz1, wi_nil, ld_0, ld_s, isIv_I, isLv_L, isRv_R, true_and, and_true, lset_0, lset_1, lset_s, avw_I, avw_L, avw_R, clr_cons, clr_nil, kst_0, kst_1, kstL_0, kstL_1, addk_I, pA_0, pA_s, pD_0, pD_s, wid_nil, wid_cons, rcv_c, putv_I, putv_L, List.length_cons, List.length_nil, List.set_cons_zero, List.set_cons_succ, not_false_eq_true, Nat.reduceMod, Nat.reduceDiv, Nat.reduceEqDiff, Nat.reduceLT, Nat.reduceLeDiff, Nat.reduceAdd, Nat.reduceSub, reduceIte, Nat.lt_irrefl, Nat.zero_ne_one, Nat.one_ne_zero, Nat.zero_add, List.nil_append, List.cons_append, Option.toList_some, Option.toList_none, forall_const, false_implies, true_implies, false_or, or_false, true_or, or_true, i_le, i_lt, i_eq, i_eq0, i_lt0, i_0le, i_0lt, i_le0, i_in1, i_cl, nI_add, pk_mul, pk_sub, i_div, i_rem, i_sh1, i_bit, i_or, i_and, i_andn, nt_le, nf_le, nt_lt, nf_lt, nt_eq, nf_eq, not_true_eq_false, and_self, and_false, false_and, eq_self, Bool.toNat_true, Bool.toNat_false, i_bool, i_bool1, Bool.false_eq_true, Bool.true_eq_false, reduceCtorEq, i_neg1, i_neg2, i_neg3, i_neg4, i_neg5, i_neg6, i_neg7, i_neg8, i_neg9, i_nega, i_negb, i_negc, i_max2, i_min2])
      exact q
    refine ⟨fun _ => e, fun h1 => ⟨fun _ => e, fun h2 => ?_⟩⟩
    exact absurd (hq.mp ⟨h1, h2⟩) (by decide)
  · obtain ⟨h1, h2⟩ := hq.mpr rfl
    refine ⟨fun h => absurd h h1, fun _ => ⟨fun h => absurd h h2, fun _ => ?_⟩⟩
    try simp (disch := omega) only [no0, no1, nz1, nz2, nz3, nz4, nz5, nz7, nz8, Classical.not_not, bz0, bz1, wi_nil, ld_0, ld_s, isIv_I, isLv_L, isRv_R, true_and, and_true, lset_0, lset_1, lset_s, avw_I, avw_L, avw_R, clr_cons, clr_nil, kst_0, kst_1, kstL_0, kstL_1, addk_I, pA_0, pA_s, pD_0, pD_s, wid_nil, wid_cons, rcv_c, putv_I, putv_L, List.length_cons, List.length_nil, List.set_cons_zero, List.set_cons_succ, not_false_eq_true, Nat.reduceMod, Nat.reduceDiv, Nat.reduceEqDiff, Nat.reduceLT, Nat.reduceLeDiff, Nat.reduceAdd, Nat.reduceSub, reduceIte, Nat.lt_irrefl, Nat.zero_ne_one, Nat.one_ne_zero, Nat.zero_add, List.nil_append, List.cons_append, Option.toList_some, Option.toList_none, forall_const, false_implies, true_implies, false_or, or_false, true_or, or_true, i_le, i_lt, i_eq, i_eq0, i_lt0, i_0le, i_0lt, i_le0, i_in1, i_cl, nI_add, pk_mul, pk_sub, i_div, i_rem, i_sh1, i_bit, i_or, i_and, i_andn, nt_le, nf_le, nt_lt, nf_lt, nt_eq, nf_eq, not_true_eq_false, and_self, and_false, false_and, eq_self, Bool.toNat_true, Bool.toNat_false, i_bool, i_bool1, Bool.false_eq_true, Bool.true_eq_false, reduceCtorEq, i_neg1, i_neg2, i_neg3, i_neg4, i_neg5, i_neg6, i_neg7, i_neg8, i_neg9, i_nega, i_negb, i_negc, i_max2, i_min2, wi_nil]
    repeat (
      first
      | refine s_X8_isRule_0 ?_
      | refine s_X8_isRule_13 ?_
      | refine s_X8_isRule_14 ?_
      simp (disch := omega) only [B_X8_isRule_0, wi_iload_n, wi_if_lt, wi_iconst, wi_icmp_ge, wi_goto, B_X8_isRule_13, B_X8_isRule_14, wi_ireturn, no0, no1, nz1, nz2, nz3, nz4, nz5, nz7, nz8, Classical.not_not, bz0, bz1, wi_nil, ld_0, ld_s, isIv_I, isLv_L, isRv_R, true_and, and_true, lset_0, lset_1, lset_s, avw_I, avw_L, avw_R, clr_cons, clr_nil, kst_0, kst_1, kstL_0, kstL_1, addk_I, pA_0, pA_s, pD_0, pD_s, wid_nil, wid_cons, rcv_c, putv_I, putv_L, List.length_cons, List.length_nil, List.set_cons_zero, List.set_cons_succ, not_false_eq_true, Nat.reduceMod, Nat.reduceDiv, Nat.reduceEqDiff, Nat.reduceLT, Nat.reduceLeDiff, Nat.reduceAdd, Nat.reduceSub, reduceIte, Nat.lt_irrefl, Nat.zero_ne_one, Nat.one_ne_zero, Nat.zero_add, List.nil_append, List.cons_append, Option.toList_some, Option.toList_none, forall_const, false_implies, true_implies, false_or, or_false, true_or, or_true, i_le, i_lt, i_eq, i_eq0, i_lt0, i_0le, i_0lt, i_le0, i_in1, i_cl, nI_add, pk_mul, pk_sub, i_div, i_rem, i_sh1, i_bit, i_or, i_and, i_andn, nt_le, nf_le, nt_lt, nf_lt, nt_eq, nf_eq, not_true_eq_false, and_self, and_false, false_and, eq_self, Bool.toNat_true, Bool.toNat_false, i_bool, i_bool1, Bool.false_eq_true, Bool.true_eq_false, reduceCtorEq, i_neg1, i_neg2, i_neg3, i_neg4, i_neg5, i_neg6, i_neg7, i_neg8, i_neg9, i_nega, i_negb, i_negc, i_max2, i_min2])
    exact q
theorem inb_lt {r : Int32} {N : Nat} (hN : N < 2 ^ 30) : (¬ r < 0 ∧ ¬ nI N < r) ↔ inB r (N + 1) = true := by
  unfold inB
  rw [decide_eq_true_eq, Int32.lt_iff_toInt_lt, Int32.lt_iff_toInt_lt, Int32.toInt_zero, nI_toInt (by omega)]
  omega
theorem c_isSum {r : Int32} (q : P (some (aI (nI (inB r 100).toNat))) S) : wpM (d + 1) mX8_isSum [aI r] S P := by
  have hq := inb_lt (r := r) (N := 99) (by decide)
  refine x_entry (ls2 := [aI r]) (Nat.le_of_ble_eq_true rfl) pl_8 rfl (Nat.le_of_ble_eq_true rfl) ?_
  refine s_X8_isSum_0 ?_
  simp (disch := omega) only [B_X8_isSum_0, wi_iload_n, wi_if_lt, wi_bipush, wi_icmp_gt, wi_iconst, wi_goto, no0, no1, nz1, nz2, nz3, nz4, nz5, nz7, nz8, Classical.not_not, bz0, bz1, wi_nil, ld_0, ld_s, isIv_I, isLv_L, isRv_R, true_and, and_true, lset_0, lset_1, lset_s, avw_I, avw_L, avw_R, clr_cons, clr_nil, kst_0, kst_1, kstL_0, kstL_1, addk_I, pA_0, pA_s, pD_0, pD_s, wid_nil, wid_cons, rcv_c, putv_I, putv_L, List.length_cons, List.length_nil, List.set_cons_zero, List.set_cons_succ, not_false_eq_true, Nat.reduceMod, Nat.reduceDiv, Nat.reduceEqDiff, Nat.reduceLT, Nat.reduceLeDiff, Nat.reduceAdd, Nat.reduceSub, reduceIte, Nat.lt_irrefl, Nat.zero_ne_one, Nat.one_ne_zero, Nat.zero_add, List.nil_append, List.cons_append, Option.toList_some, Option.toList_none, forall_const, false_implies, true_implies, false_or, or_false, true_or, or_true, i_le, i_lt, i_eq, i_eq0, i_lt0, i_0le, i_0lt, i_le0, i_in1, i_cl, nI_add, pk_mul, pk_sub, i_div, i_rem, i_sh1, i_bit, i_or, i_and, i_andn, nt_le, nf_le, nt_lt, nf_lt, nt_eq, nf_eq, not_true_eq_false, and_self, and_false, false_and, eq_self, Bool.toNat_true, Bool.toNat_false, i_bool, i_bool1, Bool.false_eq_true, Bool.true_eq_false, reduceCtorEq, i_neg1, i_neg2, i_neg3, i_neg4, i_neg5, i_neg6, i_neg7, i_neg8, i_neg9, i_nega, i_negb, i_negc, i_max2, i_min2]
  cases hb : inB r 100 <;> rw [hb] at q hq
  · have e : wpX d mX8_isSum 14 [aU] [] S P := by
      try simp (disch := omega) only [no0, no1, nz1, nz2, nz3, nz4, nz5, nz7, nz8, Classical.not_not, bz0, bz1, wi_nil, ld_0, ld_s, isIv_I, isLv_L, isRv_R, true_and, and_true, lset_0, lset_1, lset_s, avw_I, avw_L, avw_R, clr_cons, clr_nil, kst_0, kst_1, kstL_0, kstL_1, addk_I, pA_0, pA_s, pD_0, pD_s, wid_nil, wid_cons, rcv_c, putv_I, putv_L, List.length_cons, List.length_nil, List.set_cons_zero, List.set_cons_succ, not_false_eq_true, Nat.reduceMod, Nat.reduceDiv, Nat.reduceEqDiff, Nat.reduceLT, Nat.reduceLeDiff, Nat.reduceAdd, Nat.reduceSub, reduceIte, Nat.lt_irrefl, Nat.zero_ne_one, Nat.one_ne_zero, Nat.zero_add, List.nil_append, List.cons_append, Option.toList_some, Option.toList_none, forall_const, false_implies, true_implies, false_or, or_false, true_or, or_true, i_le, i_lt, i_eq, i_eq0, i_lt0, i_0le, i_0lt, i_le0, i_in1, i_cl, nI_add, pk_mul, pk_sub, i_div, i_rem, i_sh1, i_bit, i_or, i_and, i_andn, nt_le, nf_le, nt_lt, nf_lt, nt_eq, nf_eq, not_true_eq_false, and_self, and_false, false_and, eq_self, Bool.toNat_true, Bool.toNat_false, i_bool, i_bool1, Bool.false_eq_true, Bool.true_eq_false, reduceCtorEq, i_neg1, i_neg2, i_neg3, i_neg4, i_neg5, i_neg6, i_neg7, i_neg8, i_neg9, i_nega, i_negb, i_negc, i_max2, i_min2, wi_nil]
      repeat (
        first
        | refine s_X8_isSum_0 ?_
        | refine s_X8_isSum_14 ?_
        | refine s_X8_isSum_15 ?_
        simp (disch := omega) only [B_X8_isSum_0, wi_iload_n, wi_if_lt, wi_bipush, wi_icmp_gt, wi_iconst, wi_goto, B_X8_isSum_14, B_X8_isSum_15, wi_ireturn, no0, no1, nz1, nz2, nz3, nz4, nz5, nz7, nz8, Classical.not_not, bz0, bz1, wi_nil, ld_0, ld_s, isIv_I, isLv_L, isRv_R, true_and, and_true, lset_0, lset_1, lset_s, avw_I, avw_L, avw_R, clr_cons, clr_nil, kst_0, kst_1, kstL_0, kstL_1, addk_I, pA_0, pA_s, pD_0, pD_s, wid_nil, wid_cons, rcv_c, putv_I, putv_L, List.length_cons, List.length_nil, List.set_cons_zero, List.set_cons_succ, not_false_eq_true, Nat.reduceMod, Nat.reduceDiv, Nat.reduceEqDiff, Nat.reduceLT, Nat.reduceLeDiff, Nat.reduceAdd, Nat.reduceSub, reduceIte, Nat.lt_irrefl, Nat.zero_ne_one, Nat.one_ne_zero, Nat.zero_add, List.nil_append, List.cons_append, Option.toList_some, Option.toList_none, forall_const, false_implies, true_implies, false_or, or_false, true_or, or_true, i_le, i_lt, i_eq, i_eq0, i_lt0, i_0le, i_0lt, i_le0, i_in1, i_cl, nI_add, pk_mul, pk_sub, i_div, i_rem, i_sh1, i_bit, i_or, i_and, i_andn, nt_le, nf_le, nt_lt, nf_lt, nt_eq, nf_eq, not_true_eq_false, and_self, and_false, false_and, eq_self, Bool.toNat_true, Bool.toNat_false, i_bool, i_bool1, Bool.false_eq_true, Bool.true_eq_false, reduceCtorEq, i_neg1, i_neg2, i_neg3, i_neg4, i_neg5, i_neg6, i_neg7, i_neg8, i_neg9, i_nega, i_negb, i_negc, i_max2, i_min2])
      exact q
    refine ⟨fun _ => e, fun h1 => ⟨fun _ => e, fun h2 => ?_⟩⟩
    exact absurd (hq.mp ⟨h1, h2⟩) (by decide)
  · obtain ⟨h1, h2⟩ := hq.mpr rfl
    refine ⟨fun h => absurd h h1, fun _ => ⟨fun h => absurd h h2, fun _ => ?_⟩⟩
    try simp (disch := omega) only [no0, no1, nz1, nz2, nz3, nz4, nz5, nz7, nz8, Classical.not_not, bz0, bz1, wi_nil, ld_0, ld_s, isIv_I, isLv_L, isRv_R, true_and, and_true, lset_0, lset_1, lset_s, avw_I, avw_L, avw_R, clr_cons, clr_nil, kst_0, kst_1, kstL_0, kstL_1, addk_I, pA_0, pA_s, pD_0, pD_s, wid_nil, wid_cons, rcv_c, putv_I, putv_L, List.length_cons, List.length_nil, List.set_cons_zero, List.set_cons_succ, not_false_eq_true, Nat.reduceMod, Nat.reduceDiv, Nat.reduceEqDiff, Nat.reduceLT, Nat.reduceLeDiff, Nat.reduceAdd, Nat.reduceSub, reduceIte, Nat.lt_irrefl, Nat.zero_ne_one, Nat.one_ne_zero, Nat.zero_add, List.nil_append, List.cons_append, Option.toList_some, Option.toList_none, forall_const, false_implies, true_implies, false_or, or_false, true_or, or_true, i_le, i_lt, i_eq, i_eq0, i_lt0, i_0le, i_0lt, i_le0, i_in1, i_cl, nI_add, pk_mul, pk_sub, i_div, i_rem, i_sh1, i_bit, i_or, i_and, i_andn, nt_le, nf_le, nt_lt, nf_lt, nt_eq, nf_eq, not_true_eq_false, and_self, and_false, false_and, eq_self, Bool.toNat_true, Bool.toNat_false, i_bool, i_bool1, Bool.false_eq_true, Bool.true_eq_false, reduceCtorEq, i_neg1, i_neg2, i_neg3, i_neg4, i_neg5, i_neg6, i_neg7, i_neg8, i_neg9, i_nega, i_negb, i_negc, i_max2, i_min2, wi_nil]
    repeat (
      first
      | refine s_X8_isSum_0 ?_
      | refine s_X8_isSum_14 ?_
      | refine s_X8_isSum_15 ?_
      simp (disch := omega) only [B_X8_isSum_0, wi_iload_n, wi_if_lt, wi_bipush, wi_icmp_gt, wi_iconst, wi_goto, B_X8_isSum_14, B_X8_isSum_15, wi_ireturn, no0, no1, nz1, nz2, nz3, nz4, nz5, nz7, nz8, Classical.not_not, bz0, bz1, wi_nil, ld_0, ld_s, isIv_I, isLv_L, isRv_R, true_and, and_true, lset_0, lset_1, lset_s, avw_I, avw_L, avw_R, clr_cons, clr_nil, kst_0, kst_1, kstL_0, kstL_1, addk_I, pA_0, pA_s, pD_0, pD_s, wid_nil, wid_cons, rcv_c, putv_I, putv_L, List.length_cons, List.length_nil, List.set_cons_zero, List.set_cons_succ, not_false_eq_true, Nat.reduceMod, Nat.reduceDiv, Nat.reduceEqDiff, Nat.reduceLT, Nat.reduceLeDiff, Nat.reduceAdd, Nat.reduceSub, reduceIte, Nat.lt_irrefl, Nat.zero_ne_one, Nat.one_ne_zero, Nat.zero_add, List.nil_append, List.cons_append, Option.toList_some, Option.toList_none, forall_const, false_implies, true_implies, false_or, or_false, true_or, or_true, i_le, i_lt, i_eq, i_eq0, i_lt0, i_0le, i_0lt, i_le0, i_in1, i_cl, nI_add, pk_mul, pk_sub, i_div, i_rem, i_sh1, i_bit, i_or, i_and, i_andn, nt_le, nf_le, nt_lt, nf_lt, nt_eq, nf_eq, not_true_eq_false, and_self, and_false, false_and, eq_self, Bool.toNat_true, Bool.toNat_false, i_bool, i_bool1, Bool.false_eq_true, Bool.true_eq_false, reduceCtorEq, i_neg1, i_neg2, i_neg3, i_neg4, i_neg5, i_neg6, i_neg7, i_neg8, i_neg9, i_nega, i_negb, i_negc, i_max2, i_min2])
    exact q
theorem c_isDeed {r : Int32} {Y : Nat → Nat → Nat} (hy : YrX S 1 Y) (hn : Y 6 0 ≤ 5) (q : P (some (aI (nI (inB r (Y 6 0)).toNat))) S) : wpM (d + 1) mX8_isDeed [aR 7 0, aI r] S P := by
  have hq := inb_iff (r := r) (N := Y 6 0) (by omega)
  refine x_entry (ls2 := [aR 7 0, aI r]) (Nat.le_of_ble_eq_true rfl) pl_8 rfl (Nat.le_of_ble_eq_true rfl) ?_
  refine s_X8_isDeed_0 ?_
  simp (disch := omega) only [B_X8_isDeed_0, wi_iload_n, wi_if_lt, wi_aload_n, wi_getfield, fldv_7_3, fds_7_3, cnt_7, fldv_6_7, fds_6_7, cnt_6, wi_icmp_ge, wi_iconst, wi_goto, no0, no1, nz1, nz2, nz3, nz4, nz5, nz7, nz8, Classical.not_not, bz0, bz1, wi_nil, ld_0, ld_s, isIv_I, isLv_L, isRv_R, true_and, and_true, lset_0, lset_1, lset_s, avw_I, avw_L, avw_R, clr_cons, clr_nil, kst_0, kst_1, kstL_0, kstL_1, addk_I, pA_0, pA_s, pD_0, pD_s, wid_nil, wid_cons, rcv_c, putv_I, putv_L, List.length_cons, List.length_nil, List.set_cons_zero, List.set_cons_succ, not_false_eq_true, Nat.reduceMod, Nat.reduceDiv, Nat.reduceEqDiff, Nat.reduceLT, Nat.reduceLeDiff, Nat.reduceAdd, Nat.reduceSub, reduceIte, Nat.lt_irrefl, Nat.zero_ne_one, Nat.one_ne_zero, Nat.zero_add, List.nil_append, List.cons_append, Option.toList_some, Option.toList_none, forall_const, false_implies, true_implies, false_or, or_false, true_or, or_true, i_le, i_lt, i_eq, i_eq0, i_lt0, i_0le, i_0lt, i_le0, i_in1, i_cl, nI_add, pk_mul, pk_sub, i_div, i_rem, i_sh1, i_bit, i_or, i_and, i_andn, nt_le, nf_le, nt_lt, nf_lt, nt_eq, nf_eq, not_true_eq_false, and_self, and_false, false_and, eq_self, Bool.toNat_true, Bool.toNat_false, i_bool, i_bool1, Bool.false_eq_true, Bool.true_eq_false, reduceCtorEq, i_neg1, i_neg2, i_neg3, i_neg4, i_neg5, i_neg6, i_neg7, i_neg8, i_neg9, i_nega, i_negb, i_negc, i_max2, i_min2, (y_n hy)]
  cases hb : inB r (Y 6 0) <;> rw [hb] at q hq
  · have e : wpX d mX8_isDeed 19 [aU, aU] [] S P := by
      try simp (disch := omega) only [no0, no1, nz1, nz2, nz3, nz4, nz5, nz7, nz8, Classical.not_not, bz0, bz1, wi_nil, ld_0, ld_s, isIv_I, isLv_L, isRv_R, true_and, and_true, lset_0, lset_1, lset_s, avw_I, avw_L, avw_R, clr_cons, clr_nil, kst_0, kst_1, kstL_0, kstL_1, addk_I, pA_0, pA_s, pD_0, pD_s, wid_nil, wid_cons, rcv_c, putv_I, putv_L, List.length_cons, List.length_nil, List.set_cons_zero, List.set_cons_succ, not_false_eq_true, Nat.reduceMod, Nat.reduceDiv, Nat.reduceEqDiff, Nat.reduceLT, Nat.reduceLeDiff, Nat.reduceAdd, Nat.reduceSub, reduceIte, Nat.lt_irrefl, Nat.zero_ne_one, Nat.one_ne_zero, Nat.zero_add, List.nil_append, List.cons_append, Option.toList_some, Option.toList_none, forall_const, false_implies, true_implies, false_or, or_false, true_or, or_true, i_le, i_lt, i_eq, i_eq0, i_lt0, i_0le, i_0lt, i_le0, i_in1, i_cl, nI_add, pk_mul, pk_sub, i_div, i_rem, i_sh1, i_bit, i_or, i_and, i_andn, nt_le, nf_le, nt_lt, nf_lt, nt_eq, nf_eq, not_true_eq_false, and_self, and_false, false_and, eq_self, Bool.toNat_true, Bool.toNat_false, i_bool, i_bool1, Bool.false_eq_true, Bool.true_eq_false, reduceCtorEq, i_neg1, i_neg2, i_neg3, i_neg4, i_neg5, i_neg6, i_neg7, i_neg8, i_neg9, i_nega, i_negb, i_negc, i_max2, i_min2, wi_nil]
      repeat (
        first
        | refine s_X8_isDeed_0 ?_
        | refine s_X8_isDeed_19 ?_
        | refine s_X8_isDeed_20 ?_
        simp (disch := omega) only [B_X8_isDeed_0, wi_iload_n, wi_if_lt, wi_aload_n, wi_getfield, fldv_7_3, fds_7_3, cnt_7, fldv_6_7, fds_6_7, cnt_6, wi_icmp_ge, wi_iconst, wi_goto, B_X8_isDeed_19, B_X8_isDeed_20, wi_ireturn, no0, no1, nz1, nz2, nz3, nz4, nz5, nz7, nz8, Classical.not_not, bz0, bz1, wi_nil, ld_0, ld_s, isIv_I, isLv_L, isRv_R, true_and, and_true, lset_0, lset_1, lset_s, avw_I, avw_L, avw_R, clr_cons, clr_nil, kst_0, kst_1, kstL_0, kstL_1, addk_I, pA_0, pA_s, pD_0, pD_s, wid_nil, wid_cons, rcv_c, putv_I, putv_L, List.length_cons, List.length_nil, List.set_cons_zero, List.set_cons_succ, not_false_eq_true, Nat.reduceMod, Nat.reduceDiv, Nat.reduceEqDiff, Nat.reduceLT, Nat.reduceLeDiff, Nat.reduceAdd, Nat.reduceSub, reduceIte, Nat.lt_irrefl, Nat.zero_ne_one, Nat.one_ne_zero, Nat.zero_add, List.nil_append, List.cons_append, Option.toList_some, Option.toList_none, forall_const, false_implies, true_implies, false_or, or_false, true_or, or_true, i_le, i_lt, i_eq, i_eq0, i_lt0, i_0le, i_0lt, i_le0, i_in1, i_cl, nI_add, pk_mul, pk_sub, i_div, i_rem, i_sh1, i_bit, i_or, i_and, i_andn, nt_le, nf_le, nt_lt, nf_lt, nt_eq, nf_eq, not_true_eq_false, and_self, and_false, false_and, eq_self, Bool.toNat_true, Bool.toNat_false, i_bool, i_bool1, Bool.false_eq_true, Bool.true_eq_false, reduceCtorEq, i_neg1, i_neg2, i_neg3, i_neg4, i_neg5, i_neg6, i_neg7, i_neg8, i_neg9, i_nega, i_negb, i_negc, i_max2, i_min2])
      exact q
    refine ⟨fun _ => e, fun h1 => ⟨fun _ => e, fun h2 => ?_⟩⟩
    exact absurd (hq.mp ⟨h1, h2⟩) (by decide)
  · obtain ⟨h1, h2⟩ := hq.mpr rfl
    refine ⟨fun h => absurd h h1, fun _ => ⟨fun h => absurd h h2, fun _ => ?_⟩⟩
    try simp (disch := omega) only [no0, no1, nz1, nz2, nz3, nz4, nz5, nz7, nz8, Classical.not_not, bz0, bz1, wi_nil, ld_0, ld_s, isIv_I, isLv_L, isRv_R, true_and, and_true, lset_0, lset_1, lset_s, avw_I, avw_L, avw_R, clr_cons, clr_nil, kst_0, kst_1, kstL_0, kstL_1, addk_I, pA_0, pA_s, pD_0, pD_s, wid_nil, wid_cons, rcv_c, putv_I, putv_L, List.length_cons, List.length_nil, List.set_cons_zero, List.set_cons_succ, not_false_eq_true, Nat.reduceMod, Nat.reduceDiv, Nat.reduceEqDiff, Nat.reduceLT, Nat.reduceLeDiff, Nat.reduceAdd, Nat.reduceSub, reduceIte, Nat.lt_irrefl, Nat.zero_ne_one, Nat.one_ne_zero, Nat.zero_add, List.nil_append, List.cons_append, Option.toList_some, Option.toList_none, forall_const, false_implies, true_implies, false_or, or_false, true_or, or_true, i_le, i_lt, i_eq, i_eq0, i_lt0, i_0le, i_0lt, i_le0, i_in1, i_cl, nI_add, pk_mul, pk_sub, i_div, i_rem, i_sh1, i_bit, i_or, i_and, i_andn, nt_le, nf_le, nt_lt, nf_lt, nt_eq, nf_eq, not_true_eq_false, and_self, and_false, false_and, eq_self, Bool.toNat_true, Bool.toNat_false, i_bool, i_bool1, Bool.false_eq_true, Bool.true_eq_false, reduceCtorEq, i_neg1, i_neg2, i_neg3, i_neg4, i_neg5, i_neg6, i_neg7, i_neg8, i_neg9, i_nega, i_negb, i_negc, i_max2, i_min2, wi_nil]
    repeat (
      first
      | refine s_X8_isDeed_0 ?_
      | refine s_X8_isDeed_19 ?_
      | refine s_X8_isDeed_20 ?_
      simp (disch := omega) only [B_X8_isDeed_0, wi_iload_n, wi_if_lt, wi_aload_n, wi_getfield, fldv_7_3, fds_7_3, cnt_7, fldv_6_7, fds_6_7, cnt_6, wi_icmp_ge, wi_iconst, wi_goto, B_X8_isDeed_19, B_X8_isDeed_20, wi_ireturn, no0, no1, nz1, nz2, nz3, nz4, nz5, nz7, nz8, Classical.not_not, bz0, bz1, wi_nil, ld_0, ld_s, isIv_I, isLv_L, isRv_R, true_and, and_true, lset_0, lset_1, lset_s, avw_I, avw_L, avw_R, clr_cons, clr_nil, kst_0, kst_1, kstL_0, kstL_1, addk_I, pA_0, pA_s, pD_0, pD_s, wid_nil, wid_cons, rcv_c, putv_I, putv_L, List.length_cons, List.length_nil, List.set_cons_zero, List.set_cons_succ, not_false_eq_true, Nat.reduceMod, Nat.reduceDiv, Nat.reduceEqDiff, Nat.reduceLT, Nat.reduceLeDiff, Nat.reduceAdd, Nat.reduceSub, reduceIte, Nat.lt_irrefl, Nat.zero_ne_one, Nat.one_ne_zero, Nat.zero_add, List.nil_append, List.cons_append, Option.toList_some, Option.toList_none, forall_const, false_implies, true_implies, false_or, or_false, true_or, or_true, i_le, i_lt, i_eq, i_eq0, i_lt0, i_0le, i_0lt, i_le0, i_in1, i_cl, nI_add, pk_mul, pk_sub, i_div, i_rem, i_sh1, i_bit, i_or, i_and, i_andn, nt_le, nf_le, nt_lt, nf_lt, nt_eq, nf_eq, not_true_eq_false, and_self, and_false, false_and, eq_self, Bool.toNat_true, Bool.toNat_false, i_bool, i_bool1, Bool.false_eq_true, Bool.true_eq_false, reduceCtorEq, i_neg1, i_neg2, i_neg3, i_neg4, i_neg5, i_neg6, i_neg7, i_neg8, i_neg9, i_nega, i_negb, i_negc, i_max2, i_min2])
    exact q
theorem c_isSet {r : Int32} {Y : Nat → Nat → Nat} (hy : YrX S 1 Y) (hn : Y 6 0 ≤ 5) (q : P (some (aI (nI (inB r (2 ^ Y 6 0)).toNat))) S) : wpM (d + 1) mX8_isSet [aR 7 0, aI r] S P := by
  have h32 := p2_lt hn
  have hq := inb_iff (r := r) (N := 2 ^ Y 6 0) (by omega)
  refine x_entry (ls2 := [aR 7 0, aI r]) (Nat.le_of_ble_eq_true rfl) pl_8 rfl (Nat.le_of_ble_eq_true rfl) ?_
  refine s_X8_isSet_0 ?_
  simp (disch := omega) only [B_X8_isSet_0, wi_iload_n, wi_if_lt, wi_iconst, wi_aload_n, wi_getfield, fldv_7_3, fds_7_3, cnt_7, fldv_6_7, fds_6_7, cnt_6, wi_ishl, wi_icmp_ge, wi_goto, no0, no1, nz1, nz2, nz3, nz4, nz5, nz7, nz8, Classical.not_not, bz0, bz1, wi_nil, ld_0, ld_s, isIv_I, isLv_L, isRv_R, true_and, and_true, lset_0, lset_1, lset_s, avw_I, avw_L, avw_R, clr_cons, clr_nil, kst_0, kst_1, kstL_0, kstL_1, addk_I, pA_0, pA_s, pD_0, pD_s, wid_nil, wid_cons, rcv_c, putv_I, putv_L, List.length_cons, List.length_nil, List.set_cons_zero, List.set_cons_succ, not_false_eq_true, Nat.reduceMod, Nat.reduceDiv, Nat.reduceEqDiff, Nat.reduceLT, Nat.reduceLeDiff, Nat.reduceAdd, Nat.reduceSub, reduceIte, Nat.lt_irrefl, Nat.zero_ne_one, Nat.one_ne_zero, Nat.zero_add, List.nil_append, List.cons_append, Option.toList_some, Option.toList_none, forall_const, false_implies, true_implies, false_or, or_false, true_or, or_true, i_le, i_lt, i_eq, i_eq0, i_lt0, i_0le, i_0lt, i_le0, i_in1, i_cl, nI_add, pk_mul, pk_sub, i_div, i_rem, i_sh1, i_bit, i_or, i_and, i_andn, nt_le, nf_le, nt_lt, nf_lt, nt_eq, nf_eq, not_true_eq_false, and_self, and_false, false_and, eq_self, Bool.toNat_true, Bool.toNat_false, i_bool, i_bool1, Bool.false_eq_true, Bool.true_eq_false, reduceCtorEq, i_neg1, i_neg2, i_neg3, i_neg4, i_neg5, i_neg6, i_neg7, i_neg8, i_neg9, i_nega, i_negb, i_negc, i_max2, i_min2, (y_n hy)]
  cases hb : inB r (2 ^ Y 6 0) <;> rw [hb] at q hq
  · have e : wpX d mX8_isSet 21 [aU, aU] [] S P := by
      try simp (disch := omega) only [no0, no1, nz1, nz2, nz3, nz4, nz5, nz7, nz8, Classical.not_not, bz0, bz1, wi_nil, ld_0, ld_s, isIv_I, isLv_L, isRv_R, true_and, and_true, lset_0, lset_1, lset_s, avw_I, avw_L, avw_R, clr_cons, clr_nil, kst_0, kst_1, kstL_0, kstL_1, addk_I, pA_0, pA_s, pD_0, pD_s, wid_nil, wid_cons, rcv_c, putv_I, putv_L, List.length_cons, List.length_nil, List.set_cons_zero, List.set_cons_succ, not_false_eq_true, Nat.reduceMod, Nat.reduceDiv, Nat.reduceEqDiff, Nat.reduceLT, Nat.reduceLeDiff, Nat.reduceAdd, Nat.reduceSub, reduceIte, Nat.lt_irrefl, Nat.zero_ne_one, Nat.one_ne_zero, Nat.zero_add, List.nil_append, List.cons_append, Option.toList_some, Option.toList_none, forall_const, false_implies, true_implies, false_or, or_false, true_or, or_true, i_le, i_lt, i_eq, i_eq0, i_lt0, i_0le, i_0lt, i_le0, i_in1, i_cl, nI_add, pk_mul, pk_sub, i_div, i_rem, i_sh1, i_bit, i_or, i_and, i_andn, nt_le, nf_le, nt_lt, nf_lt, nt_eq, nf_eq, not_true_eq_false, and_self, and_false, false_and, eq_self, Bool.toNat_true, Bool.toNat_false, i_bool, i_bool1, Bool.false_eq_true, Bool.true_eq_false, reduceCtorEq, i_neg1, i_neg2, i_neg3, i_neg4, i_neg5, i_neg6, i_neg7, i_neg8, i_neg9, i_nega, i_negb, i_negc, i_max2, i_min2, wi_nil]
      repeat (
        first
        | refine s_X8_isSet_0 ?_
        | refine s_X8_isSet_21 ?_
        | refine s_X8_isSet_22 ?_
        simp (disch := omega) only [B_X8_isSet_0, wi_iload_n, wi_if_lt, wi_iconst, wi_aload_n, wi_getfield, fldv_7_3, fds_7_3, cnt_7, fldv_6_7, fds_6_7, cnt_6, wi_ishl, wi_icmp_ge, wi_goto, B_X8_isSet_21, B_X8_isSet_22, wi_ireturn, no0, no1, nz1, nz2, nz3, nz4, nz5, nz7, nz8, Classical.not_not, bz0, bz1, wi_nil, ld_0, ld_s, isIv_I, isLv_L, isRv_R, true_and, and_true, lset_0, lset_1, lset_s, avw_I, avw_L, avw_R, clr_cons, clr_nil, kst_0, kst_1, kstL_0, kstL_1, addk_I, pA_0, pA_s, pD_0, pD_s, wid_nil, wid_cons, rcv_c, putv_I, putv_L, List.length_cons, List.length_nil, List.set_cons_zero, List.set_cons_succ, not_false_eq_true, Nat.reduceMod, Nat.reduceDiv, Nat.reduceEqDiff, Nat.reduceLT, Nat.reduceLeDiff, Nat.reduceAdd, Nat.reduceSub, reduceIte, Nat.lt_irrefl, Nat.zero_ne_one, Nat.one_ne_zero, Nat.zero_add, List.nil_append, List.cons_append, Option.toList_some, Option.toList_none, forall_const, false_implies, true_implies, false_or, or_false, true_or, or_true, i_le, i_lt, i_eq, i_eq0, i_lt0, i_0le, i_0lt, i_le0, i_in1, i_cl, nI_add, pk_mul, pk_sub, i_div, i_rem, i_sh1, i_bit, i_or, i_and, i_andn, nt_le, nf_le, nt_lt, nf_lt, nt_eq, nf_eq, not_true_eq_false, and_self, and_false, false_and, eq_self, Bool.toNat_true, Bool.toNat_false, i_bool, i_bool1, Bool.false_eq_true, Bool.true_eq_false, reduceCtorEq, i_neg1, i_neg2, i_neg3, i_neg4, i_neg5, i_neg6, i_neg7, i_neg8, i_neg9, i_nega, i_negb, i_negc, i_max2, i_min2])
      exact q
    refine ⟨fun _ => e, fun h1 => ⟨fun _ => e, fun h2 => ?_⟩⟩
    exact absurd (hq.mp ⟨h1, h2⟩) (by decide)
  · obtain ⟨h1, h2⟩ := hq.mpr rfl
    refine ⟨fun h => absurd h h1, fun _ => ⟨fun h => absurd h h2, fun _ => ?_⟩⟩
    try simp (disch := omega) only [no0, no1, nz1, nz2, nz3, nz4, nz5, nz7, nz8, Classical.not_not, bz0, bz1, wi_nil, ld_0, ld_s, isIv_I, isLv_L, isRv_R, true_and, and_true, lset_0, lset_1, lset_s, avw_I, avw_L, avw_R, clr_cons, clr_nil, kst_0, kst_1, kstL_0, kstL_1, addk_I, pA_0, pA_s, pD_0, pD_s, wid_nil, wid_cons, rcv_c, putv_I, putv_L, List.length_cons, List.length_nil, List.set_cons_zero, List.set_cons_succ, not_false_eq_true, Nat.reduceMod, Nat.reduceDiv, Nat.reduceEqDiff, Nat.reduceLT, Nat.reduceLeDiff, Nat.reduceAdd, Nat.reduceSub, reduceIte, Nat.lt_irrefl, Nat.zero_ne_one, Nat.one_ne_zero, Nat.zero_add, List.nil_append, List.cons_append, Option.toList_some, Option.toList_none, forall_const, false_implies, true_implies, false_or, or_false, true_or, or_true, i_le, i_lt, i_eq, i_eq0, i_lt0, i_0le, i_0lt, i_le0, i_in1, i_cl, nI_add, pk_mul, pk_sub, i_div, i_rem, i_sh1, i_bit, i_or, i_and, i_andn, nt_le, nf_le, nt_lt, nf_lt, nt_eq, nf_eq, not_true_eq_false, and_self, and_false, false_and, eq_self, Bool.toNat_true, Bool.toNat_false, i_bool, i_bool1, Bool.false_eq_true, Bool.true_eq_false, reduceCtorEq, i_neg1, i_neg2, i_neg3, i_neg4, i_neg5, i_neg6, i_neg7, i_neg8, i_neg9, i_nega, i_negb, i_negc, i_max2, i_min2, wi_nil]
    repeat (
      first
      | refine s_X8_isSet_0 ?_
      | refine s_X8_isSet_21 ?_
      | refine s_X8_isSet_22 ?_
      simp (disch := omega) only [B_X8_isSet_0, wi_iload_n, wi_if_lt, wi_iconst, wi_aload_n, wi_getfield, fldv_7_3, fds_7_3, cnt_7, fldv_6_7, fds_6_7, cnt_6, wi_ishl, wi_icmp_ge, wi_goto, B_X8_isSet_21, B_X8_isSet_22, wi_ireturn, no0, no1, nz1, nz2, nz3, nz4, nz5, nz7, nz8, Classical.not_not, bz0, bz1, wi_nil, ld_0, ld_s, isIv_I, isLv_L, isRv_R, true_and, and_true, lset_0, lset_1, lset_s, avw_I, avw_L, avw_R, clr_cons, clr_nil, kst_0, kst_1, kstL_0, kstL_1, addk_I, pA_0, pA_s, pD_0, pD_s, wid_nil, wid_cons, rcv_c, putv_I, putv_L, List.length_cons, List.length_nil, List.set_cons_zero, List.set_cons_succ, not_false_eq_true, Nat.reduceMod, Nat.reduceDiv, Nat.reduceEqDiff, Nat.reduceLT, Nat.reduceLeDiff, Nat.reduceAdd, Nat.reduceSub, reduceIte, Nat.lt_irrefl, Nat.zero_ne_one, Nat.one_ne_zero, Nat.zero_add, List.nil_append, List.cons_append, Option.toList_some, Option.toList_none, forall_const, false_implies, true_implies, false_or, or_false, true_or, or_true, i_le, i_lt, i_eq, i_eq0, i_lt0, i_0le, i_0lt, i_le0, i_in1, i_cl, nI_add, pk_mul, pk_sub, i_div, i_rem, i_sh1, i_bit, i_or, i_and, i_andn, nt_le, nf_le, nt_lt, nf_lt, nt_eq, nf_eq, not_true_eq_false, and_self, and_false, false_and, eq_self, Bool.toNat_true, Bool.toNat_false, i_bool, i_bool1, Bool.false_eq_true, Bool.true_eq_false, reduceCtorEq, i_neg1, i_neg2, i_neg3, i_neg4, i_neg5, i_neg6, i_neg7, i_neg8, i_neg9, i_nega, i_negb, i_negc, i_max2, i_min2])
    exact q
theorem c_refuse {f : Nat} (hf : f < 6) (q : P (some (aI (-nI 3))) (xRef f S)) : wpM (d + 1) mX8_refuse [aR 7 0, aI (nI f)] S P := by
  refine x_entry (ls2 := [aR 7 0, aI (nI f)]) (Nat.le_of_ble_eq_true rfl) pl_8 rfl (Nat.le_of_ble_eq_true rfl) ?_
  try simp (disch := omega) only [no0, no1, nz1, nz2, nz3, nz4, nz5, nz7, nz8, Classical.not_not, bz0, bz1, wi_nil, ld_0, ld_s, isIv_I, isLv_L, isRv_R, true_and, and_true, lset_0, lset_1, lset_s, avw_I, avw_L, avw_R, clr_cons, clr_nil, kst_0, kst_1, kstL_0, kstL_1, addk_I, pA_0, pA_s, pD_0, pD_s, wid_nil, wid_cons, rcv_c, putv_I, putv_L, List.length_cons, List.length_nil, List.set_cons_zero, List.set_cons_succ, not_false_eq_true, Nat.reduceMod, Nat.reduceDiv, Nat.reduceEqDiff, Nat.reduceLT, Nat.reduceLeDiff, Nat.reduceAdd, Nat.reduceSub, reduceIte, Nat.lt_irrefl, Nat.zero_ne_one, Nat.one_ne_zero, Nat.zero_add, List.nil_append, List.cons_append, Option.toList_some, Option.toList_none, forall_const, false_implies, true_implies, false_or, or_false, true_or, or_true, i_le, i_lt, i_eq, i_eq0, i_lt0, i_0le, i_0lt, i_le0, i_in1, i_cl, nI_add, pk_mul, pk_sub, i_div, i_rem, i_sh1, i_bit, i_or, i_and, i_andn, nt_le, nf_le, nt_lt, nf_lt, nt_eq, nf_eq, not_true_eq_false, and_self, and_false, false_and, eq_self, Bool.toNat_true, Bool.toNat_false, i_bool, i_bool1, Bool.false_eq_true, Bool.true_eq_false, reduceCtorEq, i_neg1, i_neg2, i_neg3, i_neg4, i_neg5, i_neg6, i_neg7, i_neg8, i_neg9, i_nega, i_negb, i_negc, i_max2, i_min2, gA_sI, wi_nil]
  repeat (
    first
    | refine s_X8_refuse_0 ?_
    simp (disch := omega) only [B_X8_refuse_0, wi_aload_n, wi_iload_n, wi_putfield, pOk_7_10, cnt_7, wi_getfield, fldv_7_9, fds_7_9, wi_dup2, wi_iaload, wi_iconst, wi_iadd, wi_iastore, wi_bipush, wi_ireturn, cnt_27, aTy_27, aLn_27, arr_27, no0, no1, nz1, nz2, nz3, nz4, nz5, nz7, nz8, Classical.not_not, bz0, bz1, wi_nil, ld_0, ld_s, isIv_I, isLv_L, isRv_R, true_and, and_true, lset_0, lset_1, lset_s, avw_I, avw_L, avw_R, clr_cons, clr_nil, kst_0, kst_1, kstL_0, kstL_1, addk_I, pA_0, pA_s, pD_0, pD_s, wid_nil, wid_cons, rcv_c, putv_I, putv_L, List.length_cons, List.length_nil, List.set_cons_zero, List.set_cons_succ, not_false_eq_true, Nat.reduceMod, Nat.reduceDiv, Nat.reduceEqDiff, Nat.reduceLT, Nat.reduceLeDiff, Nat.reduceAdd, Nat.reduceSub, reduceIte, Nat.lt_irrefl, Nat.zero_ne_one, Nat.one_ne_zero, Nat.zero_add, List.nil_append, List.cons_append, Option.toList_some, Option.toList_none, forall_const, false_implies, true_implies, false_or, or_false, true_or, or_true, i_le, i_lt, i_eq, i_eq0, i_lt0, i_0le, i_0lt, i_le0, i_in1, i_cl, nI_add, pk_mul, pk_sub, i_div, i_rem, i_sh1, i_bit, i_or, i_and, i_andn, nt_le, nf_le, nt_lt, nf_lt, nt_eq, nf_eq, not_true_eq_false, and_self, and_false, false_and, eq_self, Bool.toNat_true, Bool.toNat_false, i_bool, i_bool1, Bool.false_eq_true, Bool.true_eq_false, reduceCtorEq, i_neg1, i_neg2, i_neg3, i_neg4, i_neg5, i_neg6, i_neg7, i_neg8, i_neg9, i_nega, i_negb, i_negc, i_max2, i_min2, gA_sI])
  exact q
theorem c_tell {v : Int32} (q : P (some (aI (nI 1))) (sI S 7 0 11 v)) : wpM (d + 1) mX8_tell [aR 7 0, aI v] S P := by
  refine x_entry (ls2 := [aR 7 0, aI v]) (Nat.le_of_ble_eq_true rfl) pl_8 rfl (Nat.le_of_ble_eq_true rfl) ?_
  try simp (disch := omega) only [no0, no1, nz1, nz2, nz3, nz4, nz5, nz7, nz8, Classical.not_not, bz0, bz1, wi_nil, ld_0, ld_s, isIv_I, isLv_L, isRv_R, true_and, and_true, lset_0, lset_1, lset_s, avw_I, avw_L, avw_R, clr_cons, clr_nil, kst_0, kst_1, kstL_0, kstL_1, addk_I, pA_0, pA_s, pD_0, pD_s, wid_nil, wid_cons, rcv_c, putv_I, putv_L, List.length_cons, List.length_nil, List.set_cons_zero, List.set_cons_succ, not_false_eq_true, Nat.reduceMod, Nat.reduceDiv, Nat.reduceEqDiff, Nat.reduceLT, Nat.reduceLeDiff, Nat.reduceAdd, Nat.reduceSub, reduceIte, Nat.lt_irrefl, Nat.zero_ne_one, Nat.one_ne_zero, Nat.zero_add, List.nil_append, List.cons_append, Option.toList_some, Option.toList_none, forall_const, false_implies, true_implies, false_or, or_false, true_or, or_true, i_le, i_lt, i_eq, i_eq0, i_lt0, i_0le, i_0lt, i_le0, i_in1, i_cl, nI_add, pk_mul, pk_sub, i_div, i_rem, i_sh1, i_bit, i_or, i_and, i_andn, nt_le, nf_le, nt_lt, nf_lt, nt_eq, nf_eq, not_true_eq_false, and_self, and_false, false_and, eq_self, Bool.toNat_true, Bool.toNat_false, i_bool, i_bool1, Bool.false_eq_true, Bool.true_eq_false, reduceCtorEq, i_neg1, i_neg2, i_neg3, i_neg4, i_neg5, i_neg6, i_neg7, i_neg8, i_neg9, i_nega, i_negb, i_negc, i_max2, i_min2, wi_nil]
  repeat (
    first
    | refine s_X8_tell_0 ?_
    simp (disch := omega) only [B_X8_tell_0, wi_aload_n, wi_iload_n, wi_putfield, pOk_7_11, cnt_7, wi_iconst, wi_ireturn, no0, no1, nz1, nz2, nz3, nz4, nz5, nz7, nz8, Classical.not_not, bz0, bz1, wi_nil, ld_0, ld_s, isIv_I, isLv_L, isRv_R, true_and, and_true, lset_0, lset_1, lset_s, avw_I, avw_L, avw_R, clr_cons, clr_nil, kst_0, kst_1, kstL_0, kstL_1, addk_I, pA_0, pA_s, pD_0, pD_s, wid_nil, wid_cons, rcv_c, putv_I, putv_L, List.length_cons, List.length_nil, List.set_cons_zero, List.set_cons_succ, not_false_eq_true, Nat.reduceMod, Nat.reduceDiv, Nat.reduceEqDiff, Nat.reduceLT, Nat.reduceLeDiff, Nat.reduceAdd, Nat.reduceSub, reduceIte, Nat.lt_irrefl, Nat.zero_ne_one, Nat.one_ne_zero, Nat.zero_add, List.nil_append, List.cons_append, Option.toList_some, Option.toList_none, forall_const, false_implies, true_implies, false_or, or_false, true_or, or_true, i_le, i_lt, i_eq, i_eq0, i_lt0, i_0le, i_0lt, i_le0, i_in1, i_cl, nI_add, pk_mul, pk_sub, i_div, i_rem, i_sh1, i_bit, i_or, i_and, i_andn, nt_le, nf_le, nt_lt, nf_lt, nt_eq, nf_eq, not_true_eq_false, and_self, and_false, false_and, eq_self, Bool.toNat_true, Bool.toNat_false, i_bool, i_bool1, Bool.false_eq_true, Bool.true_eq_false, reduceCtorEq, i_neg1, i_neg2, i_neg3, i_neg4, i_neg5, i_neg6, i_neg7, i_neg8, i_neg9, i_nega, i_negb, i_negc, i_max2, i_min2])
  exact q
theorem c_meets {f : Nat} (hf : f < 6) (q : P (some (aI (-nI 3))) (mRef f S)) : wpM (d + 1) mX9_meets [aR 8 0, aI (nI f)] S P := by
  refine x_entry (ls2 := [aR 8 0, aI (nI f)]) (Nat.le_of_ble_eq_true rfl) pl_9 rfl (Nat.le_of_ble_eq_true rfl) ?_
  try simp (disch := omega) only [no0, no1, nz1, nz2, nz3, nz4, nz5, nz7, nz8, Classical.not_not, bz0, bz1, wi_nil, ld_0, ld_s, isIv_I, isLv_L, isRv_R, true_and, and_true, lset_0, lset_1, lset_s, avw_I, avw_L, avw_R, clr_cons, clr_nil, kst_0, kst_1, kstL_0, kstL_1, addk_I, pA_0, pA_s, pD_0, pD_s, wid_nil, wid_cons, rcv_c, putv_I, putv_L, List.length_cons, List.length_nil, List.set_cons_zero, List.set_cons_succ, not_false_eq_true, Nat.reduceMod, Nat.reduceDiv, Nat.reduceEqDiff, Nat.reduceLT, Nat.reduceLeDiff, Nat.reduceAdd, Nat.reduceSub, reduceIte, Nat.lt_irrefl, Nat.zero_ne_one, Nat.one_ne_zero, Nat.zero_add, List.nil_append, List.cons_append, Option.toList_some, Option.toList_none, forall_const, false_implies, true_implies, false_or, or_false, true_or, or_true, i_le, i_lt, i_eq, i_eq0, i_lt0, i_0le, i_0lt, i_le0, i_in1, i_cl, nI_add, pk_mul, pk_sub, i_div, i_rem, i_sh1, i_bit, i_or, i_and, i_andn, nt_le, nf_le, nt_lt, nf_lt, nt_eq, nf_eq, not_true_eq_false, and_self, and_false, false_and, eq_self, Bool.toNat_true, Bool.toNat_false, i_bool, i_bool1, Bool.false_eq_true, Bool.true_eq_false, reduceCtorEq, i_neg1, i_neg2, i_neg3, i_neg4, i_neg5, i_neg6, i_neg7, i_neg8, i_neg9, i_nega, i_negb, i_negc, i_max2, i_min2, gA_sI, wi_nil]
  repeat (
    first
    | refine s_X9_meets_0 ?_
    simp (disch := omega) only [B_X9_meets_0, wi_aload_n, wi_iload_n, wi_putfield, pOk_8_0, cnt_8, wi_getfield, fldv_8_1, fds_8_1, wi_dup2, wi_iaload, wi_iconst, wi_iadd, wi_iastore, wi_bipush, wi_ireturn, cnt_30, aTy_30, aLn_30, arr_30, no0, no1, nz1, nz2, nz3, nz4, nz5, nz7, nz8, Classical.not_not, bz0, bz1, wi_nil, ld_0, ld_s, isIv_I, isLv_L, isRv_R, true_and, and_true, lset_0, lset_1, lset_s, avw_I, avw_L, avw_R, clr_cons, clr_nil, kst_0, kst_1, kstL_0, kstL_1, addk_I, pA_0, pA_s, pD_0, pD_s, wid_nil, wid_cons, rcv_c, putv_I, putv_L, List.length_cons, List.length_nil, List.set_cons_zero, List.set_cons_succ, not_false_eq_true, Nat.reduceMod, Nat.reduceDiv, Nat.reduceEqDiff, Nat.reduceLT, Nat.reduceLeDiff, Nat.reduceAdd, Nat.reduceSub, reduceIte, Nat.lt_irrefl, Nat.zero_ne_one, Nat.one_ne_zero, Nat.zero_add, List.nil_append, List.cons_append, Option.toList_some, Option.toList_none, forall_const, false_implies, true_implies, false_or, or_false, true_or, or_true, i_le, i_lt, i_eq, i_eq0, i_lt0, i_0le, i_0lt, i_le0, i_in1, i_cl, nI_add, pk_mul, pk_sub, i_div, i_rem, i_sh1, i_bit, i_or, i_and, i_andn, nt_le, nf_le, nt_lt, nf_lt, nt_eq, nf_eq, not_true_eq_false, and_self, and_false, false_and, eq_self, Bool.toNat_true, Bool.toNat_false, i_bool, i_bool1, Bool.false_eq_true, Bool.true_eq_false, reduceCtorEq, i_neg1, i_neg2, i_neg3, i_neg4, i_neg5, i_neg6, i_neg7, i_neg8, i_neg9, i_nega, i_negb, i_negc, i_max2, i_min2, gA_sI])
  exact q
theorem c_tells {v a : Int32} (q : P (some (aI a)) (sI S 8 0 2 v)) : wpM (d + 1) mX9_tells [aR 8 0, aI v, aI a] S P := by
  refine x_entry (ls2 := [aR 8 0, aI v, aI a]) (Nat.le_of_ble_eq_true rfl) pl_9 rfl (Nat.le_of_ble_eq_true rfl) ?_
  try simp (disch := omega) only [no0, no1, nz1, nz2, nz3, nz4, nz5, nz7, nz8, Classical.not_not, bz0, bz1, wi_nil, ld_0, ld_s, isIv_I, isLv_L, isRv_R, true_and, and_true, lset_0, lset_1, lset_s, avw_I, avw_L, avw_R, clr_cons, clr_nil, kst_0, kst_1, kstL_0, kstL_1, addk_I, pA_0, pA_s, pD_0, pD_s, wid_nil, wid_cons, rcv_c, putv_I, putv_L, List.length_cons, List.length_nil, List.set_cons_zero, List.set_cons_succ, not_false_eq_true, Nat.reduceMod, Nat.reduceDiv, Nat.reduceEqDiff, Nat.reduceLT, Nat.reduceLeDiff, Nat.reduceAdd, Nat.reduceSub, reduceIte, Nat.lt_irrefl, Nat.zero_ne_one, Nat.one_ne_zero, Nat.zero_add, List.nil_append, List.cons_append, Option.toList_some, Option.toList_none, forall_const, false_implies, true_implies, false_or, or_false, true_or, or_true, i_le, i_lt, i_eq, i_eq0, i_lt0, i_0le, i_0lt, i_le0, i_in1, i_cl, nI_add, pk_mul, pk_sub, i_div, i_rem, i_sh1, i_bit, i_or, i_and, i_andn, nt_le, nf_le, nt_lt, nf_lt, nt_eq, nf_eq, not_true_eq_false, and_self, and_false, false_and, eq_self, Bool.toNat_true, Bool.toNat_false, i_bool, i_bool1, Bool.false_eq_true, Bool.true_eq_false, reduceCtorEq, i_neg1, i_neg2, i_neg3, i_neg4, i_neg5, i_neg6, i_neg7, i_neg8, i_neg9, i_nega, i_negb, i_negc, i_max2, i_min2, wi_nil]
  repeat (
    first
    | refine s_X9_tells_0 ?_
    simp (disch := omega) only [B_X9_tells_0, wi_aload_n, wi_iload_n, wi_putfield, pOk_8_2, cnt_8, wi_ireturn, no0, no1, nz1, nz2, nz3, nz4, nz5, nz7, nz8, Classical.not_not, bz0, bz1, wi_nil, ld_0, ld_s, isIv_I, isLv_L, isRv_R, true_and, and_true, lset_0, lset_1, lset_s, avw_I, avw_L, avw_R, clr_cons, clr_nil, kst_0, kst_1, kstL_0, kstL_1, addk_I, pA_0, pA_s, pD_0, pD_s, wid_nil, wid_cons, rcv_c, putv_I, putv_L, List.length_cons, List.length_nil, List.set_cons_zero, List.set_cons_succ, not_false_eq_true, Nat.reduceMod, Nat.reduceDiv, Nat.reduceEqDiff, Nat.reduceLT, Nat.reduceLeDiff, Nat.reduceAdd, Nat.reduceSub, reduceIte, Nat.lt_irrefl, Nat.zero_ne_one, Nat.one_ne_zero, Nat.zero_add, List.nil_append, List.cons_append, Option.toList_some, Option.toList_none, forall_const, false_implies, true_implies, false_or, or_false, true_or, or_true, i_le, i_lt, i_eq, i_eq0, i_lt0, i_0le, i_0lt, i_le0, i_in1, i_cl, nI_add, pk_mul, pk_sub, i_div, i_rem, i_sh1, i_bit, i_or, i_and, i_andn, nt_le, nf_le, nt_lt, nf_lt, nt_eq, nf_eq, not_true_eq_false, and_self, and_false, false_and, eq_self, Bool.toNat_true, Bool.toNat_false, i_bool, i_bool1, Bool.false_eq_true, Bool.true_eq_false, reduceCtorEq, i_neg1, i_neg2, i_neg3, i_neg4, i_neg5, i_neg6, i_neg7, i_neg8, i_neg9, i_nega, i_negb, i_negc, i_max2, i_min2])
  exact q
theorem c_in {v l h : Int32} {b : Bool} (hb : (l ≤ v ∧ v ≤ h) ↔ b = true) (q : P (some (aI (nI b.toNat))) S) : wpM (d + 1) mX9_in [aI v, aI l, aI h] S P := by
  refine x_entry (ls2 := [aI v, aI l, aI h]) (Nat.le_of_ble_eq_true rfl) pl_9 rfl (Nat.le_of_ble_eq_true rfl) ?_
  refine s_X9_in_0 ?_
  simp (disch := omega) only [B_X9_in_0, wi_iload_n, wi_icmp_lt, wi_icmp_gt, wi_iconst, wi_goto, no0, no1, nz1, nz2, nz3, nz4, nz5, nz7, nz8, Classical.not_not, bz0, bz1, wi_nil, ld_0, ld_s, isIv_I, isLv_L, isRv_R, true_and, and_true, lset_0, lset_1, lset_s, avw_I, avw_L, avw_R, clr_cons, clr_nil, kst_0, kst_1, kstL_0, kstL_1, addk_I, pA_0, pA_s, pD_0, pD_s, wid_nil, wid_cons, rcv_c, putv_I, putv_L, List.length_cons, List.length_nil, List.set_cons_zero, List.set_cons_succ, not_false_eq_true, Nat.reduceMod, Nat.reduceDiv, Nat.reduceEqDiff, Nat.reduceLT, Nat.reduceLeDiff, Nat.reduceAdd, Nat.reduceSub, reduceIte, Nat.lt_irrefl, Nat.zero_ne_one, Nat.one_ne_zero, Nat.zero_add, List.nil_append, List.cons_append, Option.toList_some, Option.toList_none, forall_const, false_implies, true_implies, false_or, or_false, true_or, or_true, i_le, i_lt, i_eq, i_eq0, i_lt0, i_0le, i_0lt, i_le0, i_in1, i_cl, nI_add, pk_mul, pk_sub, i_div, i_rem, i_sh1, i_bit, i_or, i_and, i_andn, nt_le, nf_le, nt_lt, nf_lt, nt_eq, nf_eq, not_true_eq_false, and_self, and_false, false_and, eq_self, Bool.toNat_true, Bool.toNat_false, i_bool, i_bool1, Bool.false_eq_true, Bool.true_eq_false, reduceCtorEq, i_neg1, i_neg2, i_neg3, i_neg4, i_neg5, i_neg6, i_neg7, i_neg8, i_neg9, i_nega, i_negb, i_negc, i_max2, i_min2]
  have no : b = false → wpX d mX9_in 14 [aU, aU, aU] [] S P := by
    intro e
    rw [e] at q
    try simp (disch := omega) only [no0, no1, nz1, nz2, nz3, nz4, nz5, nz7, nz8, Classical.not_not, bz0, bz1, wi_nil, ld_0, ld_s, isIv_I, isLv_L, isRv_R, true_and, and_true, lset_0, lset_1, lset_s, avw_I, avw_L, avw_R, clr_cons, clr_nil, kst_0, kst_1, kstL_0, kstL_1, addk_I, pA_0, pA_s, pD_0, pD_s, wid_nil, wid_cons, rcv_c, putv_I, putv_L, List.length_cons, List.length_nil, List.set_cons_zero, List.set_cons_succ, not_false_eq_true, Nat.reduceMod, Nat.reduceDiv, Nat.reduceEqDiff, Nat.reduceLT, Nat.reduceLeDiff, Nat.reduceAdd, Nat.reduceSub, reduceIte, Nat.lt_irrefl, Nat.zero_ne_one, Nat.one_ne_zero, Nat.zero_add, List.nil_append, List.cons_append, Option.toList_some, Option.toList_none, forall_const, false_implies, true_implies, false_or, or_false, true_or, or_true, i_le, i_lt, i_eq, i_eq0, i_lt0, i_0le, i_0lt, i_le0, i_in1, i_cl, nI_add, pk_mul, pk_sub, i_div, i_rem, i_sh1, i_bit, i_or, i_and, i_andn, nt_le, nf_le, nt_lt, nf_lt, nt_eq, nf_eq, not_true_eq_false, and_self, and_false, false_and, eq_self, Bool.toNat_true, Bool.toNat_false, i_bool, i_bool1, Bool.false_eq_true, Bool.true_eq_false, reduceCtorEq, i_neg1, i_neg2, i_neg3, i_neg4, i_neg5, i_neg6, i_neg7, i_neg8, i_neg9, i_nega, i_negb, i_negc, i_max2, i_min2, wi_nil]
    repeat (
      first
      | refine s_X9_in_0 ?_
      | refine s_X9_in_14 ?_
      | refine s_X9_in_15 ?_
      simp (disch := omega) only [B_X9_in_0, wi_iload_n, wi_icmp_lt, wi_icmp_gt, wi_iconst, wi_goto, B_X9_in_14, B_X9_in_15, wi_ireturn, no0, no1, nz1, nz2, nz3, nz4, nz5, nz7, nz8, Classical.not_not, bz0, bz1, wi_nil, ld_0, ld_s, isIv_I, isLv_L, isRv_R, true_and, and_true, lset_0, lset_1, lset_s, avw_I, avw_L, avw_R, clr_cons, clr_nil, kst_0, kst_1, kstL_0, kstL_1, addk_I, pA_0, pA_s, pD_0, pD_s, wid_nil, wid_cons, rcv_c, putv_I, putv_L, List.length_cons, List.length_nil, List.set_cons_zero, List.set_cons_succ, not_false_eq_true, Nat.reduceMod, Nat.reduceDiv, Nat.reduceEqDiff, Nat.reduceLT, Nat.reduceLeDiff, Nat.reduceAdd, Nat.reduceSub, reduceIte, Nat.lt_irrefl, Nat.zero_ne_one, Nat.one_ne_zero, Nat.zero_add, List.nil_append, List.cons_append, Option.toList_some, Option.toList_none, forall_const, false_implies, true_implies, false_or, or_false, true_or, or_true, i_le, i_lt, i_eq, i_eq0, i_lt0, i_0le, i_0lt, i_le0, i_in1, i_cl, nI_add, pk_mul, pk_sub, i_div, i_rem, i_sh1, i_bit, i_or, i_and, i_andn, nt_le, nf_le, nt_lt, nf_lt, nt_eq, nf_eq, not_true_eq_false, and_self, and_false, false_and, eq_self, Bool.toNat_true, Bool.toNat_false, i_bool, i_bool1, Bool.false_eq_true, Bool.true_eq_false, reduceCtorEq, i_neg1, i_neg2, i_neg3, i_neg4, i_neg5, i_neg6, i_neg7, i_neg8, i_neg9, i_nega, i_negb, i_negc, i_max2, i_min2])
    exact q
  refine ⟨fun h1 => no ?_, fun h1 => ⟨fun h2 => no ?_, fun h2 => ?_⟩⟩
  · cases b
    · rfl
    · have := (hb.mpr rfl).1
      rw [Int32.le_iff_toInt_le] at this
      rw [Int32.lt_iff_toInt_lt] at h1
      omega
  · cases b
    · rfl
    · have := (hb.mpr rfl).2
      rw [Int32.le_iff_toInt_le] at this
      rw [Int32.lt_iff_toInt_lt] at h2
      omega
  · have e : b = true := hb.mp ⟨by rw [Int32.le_iff_toInt_le]; rw [Int32.lt_iff_toInt_lt] at h1; omega, by rw [Int32.le_iff_toInt_le]; rw [Int32.lt_iff_toInt_lt] at h2; omega⟩
    rw [e] at q
    try simp (disch := omega) only [no0, no1, nz1, nz2, nz3, nz4, nz5, nz7, nz8, Classical.not_not, bz0, bz1, wi_nil, ld_0, ld_s, isIv_I, isLv_L, isRv_R, true_and, and_true, lset_0, lset_1, lset_s, avw_I, avw_L, avw_R, clr_cons, clr_nil, kst_0, kst_1, kstL_0, kstL_1, addk_I, pA_0, pA_s, pD_0, pD_s, wid_nil, wid_cons, rcv_c, putv_I, putv_L, List.length_cons, List.length_nil, List.set_cons_zero, List.set_cons_succ, not_false_eq_true, Nat.reduceMod, Nat.reduceDiv, Nat.reduceEqDiff, Nat.reduceLT, Nat.reduceLeDiff, Nat.reduceAdd, Nat.reduceSub, reduceIte, Nat.lt_irrefl, Nat.zero_ne_one, Nat.one_ne_zero, Nat.zero_add, List.nil_append, List.cons_append, Option.toList_some, Option.toList_none, forall_const, false_implies, true_implies, false_or, or_false, true_or, or_true, i_le, i_lt, i_eq, i_eq0, i_lt0, i_0le, i_0lt, i_le0, i_in1, i_cl, nI_add, pk_mul, pk_sub, i_div, i_rem, i_sh1, i_bit, i_or, i_and, i_andn, nt_le, nf_le, nt_lt, nf_lt, nt_eq, nf_eq, not_true_eq_false, and_self, and_false, false_and, eq_self, Bool.toNat_true, Bool.toNat_false, i_bool, i_bool1, Bool.false_eq_true, Bool.true_eq_false, reduceCtorEq, i_neg1, i_neg2, i_neg3, i_neg4, i_neg5, i_neg6, i_neg7, i_neg8, i_neg9, i_nega, i_negb, i_negc, i_max2, i_min2, wi_nil]
    repeat (
      first
      | refine s_X9_in_0 ?_
      | refine s_X9_in_14 ?_
      | refine s_X9_in_15 ?_
      simp (disch := omega) only [B_X9_in_0, wi_iload_n, wi_icmp_lt, wi_icmp_gt, wi_iconst, wi_goto, B_X9_in_14, B_X9_in_15, wi_ireturn, no0, no1, nz1, nz2, nz3, nz4, nz5, nz7, nz8, Classical.not_not, bz0, bz1, wi_nil, ld_0, ld_s, isIv_I, isLv_L, isRv_R, true_and, and_true, lset_0, lset_1, lset_s, avw_I, avw_L, avw_R, clr_cons, clr_nil, kst_0, kst_1, kstL_0, kstL_1, addk_I, pA_0, pA_s, pD_0, pD_s, wid_nil, wid_cons, rcv_c, putv_I, putv_L, List.length_cons, List.length_nil, List.set_cons_zero, List.set_cons_succ, not_false_eq_true, Nat.reduceMod, Nat.reduceDiv, Nat.reduceEqDiff, Nat.reduceLT, Nat.reduceLeDiff, Nat.reduceAdd, Nat.reduceSub, reduceIte, Nat.lt_irrefl, Nat.zero_ne_one, Nat.one_ne_zero, Nat.zero_add, List.nil_append, List.cons_append, Option.toList_some, Option.toList_none, forall_const, false_implies, true_implies, false_or, or_false, true_or, or_true, i_le, i_lt, i_eq, i_eq0, i_lt0, i_0le, i_0lt, i_le0, i_in1, i_cl, nI_add, pk_mul, pk_sub, i_div, i_rem, i_sh1, i_bit, i_or, i_and, i_andn, nt_le, nf_le, nt_lt, nf_lt, nt_eq, nf_eq, not_true_eq_false, and_self, and_false, false_and, eq_self, Bool.toNat_true, Bool.toNat_false, i_bool, i_bool1, Bool.false_eq_true, Bool.true_eq_false, reduceCtorEq, i_neg1, i_neg2, i_neg3, i_neg4, i_neg5, i_neg6, i_neg7, i_neg8, i_neg9, i_nega, i_negb, i_negc, i_max2, i_min2])
    exact q
theorem c_mRow {r : Int32} (q : P (some (aI (nI (inB r 6).toNat))) S) : wpM (d + 2) mX9_isRow [aI r] S P := by
  refine x_entry (ls2 := [aI r]) (Nat.le_of_ble_eq_true rfl) pl_9 rfl (Nat.le_of_ble_eq_true rfl) ?_
  try simp (disch := omega) only [no0, no1, nz1, nz2, nz3, nz4, nz5, nz7, nz8, Classical.not_not, bz0, bz1, wi_nil, ld_0, ld_s, isIv_I, isLv_L, isRv_R, true_and, and_true, lset_0, lset_1, lset_s, avw_I, avw_L, avw_R, clr_cons, clr_nil, kst_0, kst_1, kstL_0, kstL_1, addk_I, pA_0, pA_s, pD_0, pD_s, wid_nil, wid_cons, rcv_c, putv_I, putv_L, List.length_cons, List.length_nil, List.set_cons_zero, List.set_cons_succ, not_false_eq_true, Nat.reduceMod, Nat.reduceDiv, Nat.reduceEqDiff, Nat.reduceLT, Nat.reduceLeDiff, Nat.reduceAdd, Nat.reduceSub, reduceIte, Nat.lt_irrefl, Nat.zero_ne_one, Nat.one_ne_zero, Nat.zero_add, List.nil_append, List.cons_append, Option.toList_some, Option.toList_none, forall_const, false_implies, true_implies, false_or, or_false, true_or, or_true, i_le, i_lt, i_eq, i_eq0, i_lt0, i_0le, i_0lt, i_le0, i_in1, i_cl, nI_add, pk_mul, pk_sub, i_div, i_rem, i_sh1, i_bit, i_or, i_and, i_andn, nt_le, nf_le, nt_lt, nf_lt, nt_eq, nf_eq, not_true_eq_false, and_self, and_false, false_and, eq_self, Bool.toNat_true, Bool.toNat_false, i_bool, i_bool1, Bool.false_eq_true, Bool.true_eq_false, reduceCtorEq, i_neg1, i_neg2, i_neg3, i_neg4, i_neg5, i_neg6, i_neg7, i_neg8, i_neg9, i_nega, i_negb, i_negc, i_max2, i_min2, wi_nil]
  repeat (
    first
    | refine s_X9_isRow_0 ?_
    | refine s_X9_isRow_6 ?_
    simp (disch := omega) only [B_X9_isRow_0, wi_iload_n, wi_iconst, wi_invokestatic, B_X9_isRow_6, wi_ireturn, no0, no1, nz1, nz2, nz3, nz4, nz5, nz7, nz8, Classical.not_not, bz0, bz1, wi_nil, ld_0, ld_s, isIv_I, isLv_L, isRv_R, true_and, and_true, lset_0, lset_1, lset_s, avw_I, avw_L, avw_R, clr_cons, clr_nil, kst_0, kst_1, kstL_0, kstL_1, addk_I, pA_0, pA_s, pD_0, pD_s, wid_nil, wid_cons, rcv_c, putv_I, putv_L, List.length_cons, List.length_nil, List.set_cons_zero, List.set_cons_succ, not_false_eq_true, Nat.reduceMod, Nat.reduceDiv, Nat.reduceEqDiff, Nat.reduceLT, Nat.reduceLeDiff, Nat.reduceAdd, Nat.reduceSub, reduceIte, Nat.lt_irrefl, Nat.zero_ne_one, Nat.one_ne_zero, Nat.zero_add, List.nil_append, List.cons_append, Option.toList_some, Option.toList_none, forall_const, false_implies, true_implies, false_or, or_false, true_or, or_true, i_le, i_lt, i_eq, i_eq0, i_lt0, i_0le, i_0lt, i_le0, i_in1, i_cl, nI_add, pk_mul, pk_sub, i_div, i_rem, i_sh1, i_bit, i_or, i_and, i_andn, nt_le, nf_le, nt_lt, nf_lt, nt_eq, nf_eq, not_true_eq_false, and_self, and_false, false_and, eq_self, Bool.toNat_true, Bool.toNat_false, i_bool, i_bool1, Bool.false_eq_true, Bool.true_eq_false, reduceCtorEq, i_neg1, i_neg2, i_neg3, i_neg4, i_neg5, i_neg6, i_neg7, i_neg8, i_neg9, i_nega, i_negb, i_negc, i_max2, i_min2])
  refine c_in (inb_le (N := 5) (by decide)) ?_
  try simp (disch := omega) only [no0, no1, nz1, nz2, nz3, nz4, nz5, nz7, nz8, Classical.not_not, bz0, bz1, wi_nil, ld_0, ld_s, isIv_I, isLv_L, isRv_R, true_and, and_true, lset_0, lset_1, lset_s, avw_I, avw_L, avw_R, clr_cons, clr_nil, kst_0, kst_1, kstL_0, kstL_1, addk_I, pA_0, pA_s, pD_0, pD_s, wid_nil, wid_cons, rcv_c, putv_I, putv_L, List.length_cons, List.length_nil, List.set_cons_zero, List.set_cons_succ, not_false_eq_true, Nat.reduceMod, Nat.reduceDiv, Nat.reduceEqDiff, Nat.reduceLT, Nat.reduceLeDiff, Nat.reduceAdd, Nat.reduceSub, reduceIte, Nat.lt_irrefl, Nat.zero_ne_one, Nat.one_ne_zero, Nat.zero_add, List.nil_append, List.cons_append, Option.toList_some, Option.toList_none, forall_const, false_implies, true_implies, false_or, or_false, true_or, or_true, i_le, i_lt, i_eq, i_eq0, i_lt0, i_0le, i_0lt, i_le0, i_in1, i_cl, nI_add, pk_mul, pk_sub, i_div, i_rem, i_sh1, i_bit, i_or, i_and, i_andn, nt_le, nf_le, nt_lt, nf_lt, nt_eq, nf_eq, not_true_eq_false, and_self, and_false, false_and, eq_self, Bool.toNat_true, Bool.toNat_false, i_bool, i_bool1, Bool.false_eq_true, Bool.true_eq_false, reduceCtorEq, i_neg1, i_neg2, i_neg3, i_neg4, i_neg5, i_neg6, i_neg7, i_neg8, i_neg9, i_nega, i_negb, i_negc, i_max2, i_min2, bz2, wi_nil]
  repeat (
    first
    | refine s_X9_isRow_0 ?_
    | refine s_X9_isRow_6 ?_
    simp (disch := omega) only [B_X9_isRow_0, wi_iload_n, wi_iconst, wi_invokestatic, B_X9_isRow_6, wi_ireturn, no0, no1, nz1, nz2, nz3, nz4, nz5, nz7, nz8, Classical.not_not, bz0, bz1, wi_nil, ld_0, ld_s, isIv_I, isLv_L, isRv_R, true_and, and_true, lset_0, lset_1, lset_s, avw_I, avw_L, avw_R, clr_cons, clr_nil, kst_0, kst_1, kstL_0, kstL_1, addk_I, pA_0, pA_s, pD_0, pD_s, wid_nil, wid_cons, rcv_c, putv_I, putv_L, List.length_cons, List.length_nil, List.set_cons_zero, List.set_cons_succ, not_false_eq_true, Nat.reduceMod, Nat.reduceDiv, Nat.reduceEqDiff, Nat.reduceLT, Nat.reduceLeDiff, Nat.reduceAdd, Nat.reduceSub, reduceIte, Nat.lt_irrefl, Nat.zero_ne_one, Nat.one_ne_zero, Nat.zero_add, List.nil_append, List.cons_append, Option.toList_some, Option.toList_none, forall_const, false_implies, true_implies, false_or, or_false, true_or, or_true, i_le, i_lt, i_eq, i_eq0, i_lt0, i_0le, i_0lt, i_le0, i_in1, i_cl, nI_add, pk_mul, pk_sub, i_div, i_rem, i_sh1, i_bit, i_or, i_and, i_andn, nt_le, nf_le, nt_lt, nf_lt, nt_eq, nf_eq, not_true_eq_false, and_self, and_false, false_and, eq_self, Bool.toNat_true, Bool.toNat_false, i_bool, i_bool1, Bool.false_eq_true, Bool.true_eq_false, reduceCtorEq, i_neg1, i_neg2, i_neg3, i_neg4, i_neg5, i_neg6, i_neg7, i_neg8, i_neg9, i_nega, i_negb, i_negc, i_max2, i_min2, bz2])
  exact q
theorem c_mText {r : Int32} (q : P (some (aI (nI (inB r 4).toNat))) S) : wpM (d + 2) mX9_isText [aI r] S P := by
  refine x_entry (ls2 := [aI r]) (Nat.le_of_ble_eq_true rfl) pl_9 rfl (Nat.le_of_ble_eq_true rfl) ?_
  try simp (disch := omega) only [no0, no1, nz1, nz2, nz3, nz4, nz5, nz7, nz8, Classical.not_not, bz0, bz1, wi_nil, ld_0, ld_s, isIv_I, isLv_L, isRv_R, true_and, and_true, lset_0, lset_1, lset_s, avw_I, avw_L, avw_R, clr_cons, clr_nil, kst_0, kst_1, kstL_0, kstL_1, addk_I, pA_0, pA_s, pD_0, pD_s, wid_nil, wid_cons, rcv_c, putv_I, putv_L, List.length_cons, List.length_nil, List.set_cons_zero, List.set_cons_succ, not_false_eq_true, Nat.reduceMod, Nat.reduceDiv, Nat.reduceEqDiff, Nat.reduceLT, Nat.reduceLeDiff, Nat.reduceAdd, Nat.reduceSub, reduceIte, Nat.lt_irrefl, Nat.zero_ne_one, Nat.one_ne_zero, Nat.zero_add, List.nil_append, List.cons_append, Option.toList_some, Option.toList_none, forall_const, false_implies, true_implies, false_or, or_false, true_or, or_true, i_le, i_lt, i_eq, i_eq0, i_lt0, i_0le, i_0lt, i_le0, i_in1, i_cl, nI_add, pk_mul, pk_sub, i_div, i_rem, i_sh1, i_bit, i_or, i_and, i_andn, nt_le, nf_le, nt_lt, nf_lt, nt_eq, nf_eq, not_true_eq_false, and_self, and_false, false_and, eq_self, Bool.toNat_true, Bool.toNat_false, i_bool, i_bool1, Bool.false_eq_true, Bool.true_eq_false, reduceCtorEq, i_neg1, i_neg2, i_neg3, i_neg4, i_neg5, i_neg6, i_neg7, i_neg8, i_neg9, i_nega, i_negb, i_negc, i_max2, i_min2, wi_nil]
  repeat (
    first
    | refine s_X9_isText_0 ?_
    | refine s_X9_isText_6 ?_
    simp (disch := omega) only [B_X9_isText_0, wi_iload_n, wi_iconst, wi_invokestatic, B_X9_isText_6, wi_ireturn, no0, no1, nz1, nz2, nz3, nz4, nz5, nz7, nz8, Classical.not_not, bz0, bz1, wi_nil, ld_0, ld_s, isIv_I, isLv_L, isRv_R, true_and, and_true, lset_0, lset_1, lset_s, avw_I, avw_L, avw_R, clr_cons, clr_nil, kst_0, kst_1, kstL_0, kstL_1, addk_I, pA_0, pA_s, pD_0, pD_s, wid_nil, wid_cons, rcv_c, putv_I, putv_L, List.length_cons, List.length_nil, List.set_cons_zero, List.set_cons_succ, not_false_eq_true, Nat.reduceMod, Nat.reduceDiv, Nat.reduceEqDiff, Nat.reduceLT, Nat.reduceLeDiff, Nat.reduceAdd, Nat.reduceSub, reduceIte, Nat.lt_irrefl, Nat.zero_ne_one, Nat.one_ne_zero, Nat.zero_add, List.nil_append, List.cons_append, Option.toList_some, Option.toList_none, forall_const, false_implies, true_implies, false_or, or_false, true_or, or_true, i_le, i_lt, i_eq, i_eq0, i_lt0, i_0le, i_0lt, i_le0, i_in1, i_cl, nI_add, pk_mul, pk_sub, i_div, i_rem, i_sh1, i_bit, i_or, i_and, i_andn, nt_le, nf_le, nt_lt, nf_lt, nt_eq, nf_eq, not_true_eq_false, and_self, and_false, false_and, eq_self, Bool.toNat_true, Bool.toNat_false, i_bool, i_bool1, Bool.false_eq_true, Bool.true_eq_false, reduceCtorEq, i_neg1, i_neg2, i_neg3, i_neg4, i_neg5, i_neg6, i_neg7, i_neg8, i_neg9, i_nega, i_negb, i_negc, i_max2, i_min2])
  refine c_in (inb_le (N := 3) (by decide)) ?_
  try simp (disch := omega) only [no0, no1, nz1, nz2, nz3, nz4, nz5, nz7, nz8, Classical.not_not, bz0, bz1, wi_nil, ld_0, ld_s, isIv_I, isLv_L, isRv_R, true_and, and_true, lset_0, lset_1, lset_s, avw_I, avw_L, avw_R, clr_cons, clr_nil, kst_0, kst_1, kstL_0, kstL_1, addk_I, pA_0, pA_s, pD_0, pD_s, wid_nil, wid_cons, rcv_c, putv_I, putv_L, List.length_cons, List.length_nil, List.set_cons_zero, List.set_cons_succ, not_false_eq_true, Nat.reduceMod, Nat.reduceDiv, Nat.reduceEqDiff, Nat.reduceLT, Nat.reduceLeDiff, Nat.reduceAdd, Nat.reduceSub, reduceIte, Nat.lt_irrefl, Nat.zero_ne_one, Nat.one_ne_zero, Nat.zero_add, List.nil_append, List.cons_append, Option.toList_some, Option.toList_none, forall_const, false_implies, true_implies, false_or, or_false, true_or, or_true, i_le, i_lt, i_eq, i_eq0, i_lt0, i_0le, i_0lt, i_le0, i_in1, i_cl, nI_add, pk_mul, pk_sub, i_div, i_rem, i_sh1, i_bit, i_or, i_and, i_andn, nt_le, nf_le, nt_lt, nf_lt, nt_eq, nf_eq, not_true_eq_false, and_self, and_false, false_and, eq_self, Bool.toNat_true, Bool.toNat_false, i_bool, i_bool1, Bool.false_eq_true, Bool.true_eq_false, reduceCtorEq, i_neg1, i_neg2, i_neg3, i_neg4, i_neg5, i_neg6, i_neg7, i_neg8, i_neg9, i_nega, i_negb, i_negc, i_max2, i_min2, bz2, wi_nil]
  repeat (
    first
    | refine s_X9_isText_0 ?_
    | refine s_X9_isText_6 ?_
    simp (disch := omega) only [B_X9_isText_0, wi_iload_n, wi_iconst, wi_invokestatic, B_X9_isText_6, wi_ireturn, no0, no1, nz1, nz2, nz3, nz4, nz5, nz7, nz8, Classical.not_not, bz0, bz1, wi_nil, ld_0, ld_s, isIv_I, isLv_L, isRv_R, true_and, and_true, lset_0, lset_1, lset_s, avw_I, avw_L, avw_R, clr_cons, clr_nil, kst_0, kst_1, kstL_0, kstL_1, addk_I, pA_0, pA_s, pD_0, pD_s, wid_nil, wid_cons, rcv_c, putv_I, putv_L, List.length_cons, List.length_nil, List.set_cons_zero, List.set_cons_succ, not_false_eq_true, Nat.reduceMod, Nat.reduceDiv, Nat.reduceEqDiff, Nat.reduceLT, Nat.reduceLeDiff, Nat.reduceAdd, Nat.reduceSub, reduceIte, Nat.lt_irrefl, Nat.zero_ne_one, Nat.one_ne_zero, Nat.zero_add, List.nil_append, List.cons_append, Option.toList_some, Option.toList_none, forall_const, false_implies, true_implies, false_or, or_false, true_or, or_true, i_le, i_lt, i_eq, i_eq0, i_lt0, i_0le, i_0lt, i_le0, i_in1, i_cl, nI_add, pk_mul, pk_sub, i_div, i_rem, i_sh1, i_bit, i_or, i_and, i_andn, nt_le, nf_le, nt_lt, nf_lt, nt_eq, nf_eq, not_true_eq_false, and_self, and_false, false_and, eq_self, Bool.toNat_true, Bool.toNat_false, i_bool, i_bool1, Bool.false_eq_true, Bool.true_eq_false, reduceCtorEq, i_neg1, i_neg2, i_neg3, i_neg4, i_neg5, i_neg6, i_neg7, i_neg8, i_neg9, i_nega, i_negb, i_negc, i_max2, i_min2, bz2])
  exact q
theorem c_mDeed {r : Int32} {k : Nat} {Y : Nat → Nat → Nat} (hm : YrM S k Y) (hn : Y 6 0 ≤ 5) (q : P (some (aI (nI (inB r (Y 6 0)).toNat))) S) : wpM (d + 2) mX9_isDeed [aR 8 0, aI r] S P := by
  refine x_entry (ls2 := [aR 8 0, aI r]) (Nat.le_of_ble_eq_true rfl) pl_9 rfl (Nat.le_of_ble_eq_true rfl) ?_
  refine s_X9_isDeed_0 ?_
  simp only [B_X9_isDeed_0, wi_iload_n, wi_iconst, wi_aload_n, wi_getfield, fldv_8_10, fds_8_10, cnt_8, wi_isub, wi_invokestatic, no0, no1, nz1, nz2, nz3, nz4, nz5, nz7, nz8, Classical.not_not, bz0, bz1, wi_nil, ld_0, ld_s, isIv_I, isLv_L, isRv_R, true_and, and_true, lset_0, lset_1, lset_s, avw_I, avw_L, avw_R, clr_cons, clr_nil, kst_0, kst_1, kstL_0, kstL_1, addk_I, pA_0, pA_s, pD_0, pD_s, wid_nil, wid_cons, rcv_c, putv_I, putv_L, List.length_cons, List.length_nil, List.set_cons_zero, List.set_cons_succ, not_false_eq_true, Nat.reduceMod, Nat.reduceDiv, Nat.reduceEqDiff, Nat.reduceLT, Nat.reduceLeDiff, Nat.reduceAdd, Nat.reduceSub, reduceIte, Nat.lt_irrefl, Nat.zero_ne_one, Nat.one_ne_zero, Nat.zero_add, List.nil_append, List.cons_append, Option.toList_some, Option.toList_none, forall_const, false_implies, true_implies, false_or, or_false, true_or, or_true, (m_n hm)]
  refine c_in (inb_sub (by omega)) ?_
  try simp (disch := omega) only [no0, no1, nz1, nz2, nz3, nz4, nz5, nz7, nz8, Classical.not_not, bz0, bz1, wi_nil, ld_0, ld_s, isIv_I, isLv_L, isRv_R, true_and, and_true, lset_0, lset_1, lset_s, avw_I, avw_L, avw_R, clr_cons, clr_nil, kst_0, kst_1, kstL_0, kstL_1, addk_I, pA_0, pA_s, pD_0, pD_s, wid_nil, wid_cons, rcv_c, putv_I, putv_L, List.length_cons, List.length_nil, List.set_cons_zero, List.set_cons_succ, not_false_eq_true, Nat.reduceMod, Nat.reduceDiv, Nat.reduceEqDiff, Nat.reduceLT, Nat.reduceLeDiff, Nat.reduceAdd, Nat.reduceSub, reduceIte, Nat.lt_irrefl, Nat.zero_ne_one, Nat.one_ne_zero, Nat.zero_add, List.nil_append, List.cons_append, Option.toList_some, Option.toList_none, forall_const, false_implies, true_implies, false_or, or_false, true_or, or_true, i_le, i_lt, i_eq, i_eq0, i_lt0, i_0le, i_0lt, i_le0, i_in1, i_cl, nI_add, pk_mul, pk_sub, i_div, i_rem, i_sh1, i_bit, i_or, i_and, i_andn, nt_le, nf_le, nt_lt, nf_lt, nt_eq, nf_eq, not_true_eq_false, and_self, and_false, false_and, eq_self, Bool.toNat_true, Bool.toNat_false, i_bool, i_bool1, Bool.false_eq_true, Bool.true_eq_false, reduceCtorEq, i_neg1, i_neg2, i_neg3, i_neg4, i_neg5, i_neg6, i_neg7, i_neg8, i_neg9, i_nega, i_negb, i_negc, i_max2, i_min2, bz2, wi_nil]
  repeat (
    first
    | refine s_X9_isDeed_0 ?_
    | refine s_X9_isDeed_11 ?_
    simp (disch := omega) only [B_X9_isDeed_0, wi_iload_n, wi_iconst, wi_aload_n, wi_getfield, fldv_8_10, fds_8_10, cnt_8, wi_isub, wi_invokestatic, B_X9_isDeed_11, wi_ireturn, no0, no1, nz1, nz2, nz3, nz4, nz5, nz7, nz8, Classical.not_not, bz0, bz1, wi_nil, ld_0, ld_s, isIv_I, isLv_L, isRv_R, true_and, and_true, lset_0, lset_1, lset_s, avw_I, avw_L, avw_R, clr_cons, clr_nil, kst_0, kst_1, kstL_0, kstL_1, addk_I, pA_0, pA_s, pD_0, pD_s, wid_nil, wid_cons, rcv_c, putv_I, putv_L, List.length_cons, List.length_nil, List.set_cons_zero, List.set_cons_succ, not_false_eq_true, Nat.reduceMod, Nat.reduceDiv, Nat.reduceEqDiff, Nat.reduceLT, Nat.reduceLeDiff, Nat.reduceAdd, Nat.reduceSub, reduceIte, Nat.lt_irrefl, Nat.zero_ne_one, Nat.one_ne_zero, Nat.zero_add, List.nil_append, List.cons_append, Option.toList_some, Option.toList_none, forall_const, false_implies, true_implies, false_or, or_false, true_or, or_true, i_le, i_lt, i_eq, i_eq0, i_lt0, i_0le, i_0lt, i_le0, i_in1, i_cl, nI_add, pk_mul, pk_sub, i_div, i_rem, i_sh1, i_bit, i_or, i_and, i_andn, nt_le, nf_le, nt_lt, nf_lt, nt_eq, nf_eq, not_true_eq_false, and_self, and_false, false_and, eq_self, Bool.toNat_true, Bool.toNat_false, i_bool, i_bool1, Bool.false_eq_true, Bool.true_eq_false, reduceCtorEq, i_neg1, i_neg2, i_neg3, i_neg4, i_neg5, i_neg6, i_neg7, i_neg8, i_neg9, i_nega, i_negb, i_negc, i_max2, i_min2, bz2])
  exact q
theorem c_mSet {r : Int32} {k : Nat} {Y : Nat → Nat → Nat} (hm : YrM S k Y) (hn : Y 6 0 ≤ 5) (q : P (some (aI (nI (inB r (2 ^ Y 6 0)).toNat))) S) : wpM (d + 2) mX9_isSet [aR 8 0, aI r] S P := by
  have h32 := p2_lt hn
  refine x_entry (ls2 := [aR 8 0, aI r]) (Nat.le_of_ble_eq_true rfl) pl_9 rfl (Nat.le_of_ble_eq_true rfl) ?_
  refine s_X9_isSet_0 ?_
  simp only [B_X9_isSet_0, wi_iload_n, wi_iconst, wi_aload_n, wi_getfield, fldv_8_10, fds_8_10, cnt_8, wi_ishl, wi_isub, wi_invokestatic, no0, no1, nz1, nz2, nz3, nz4, nz5, nz7, nz8, Classical.not_not, bz0, bz1, wi_nil, ld_0, ld_s, isIv_I, isLv_L, isRv_R, true_and, and_true, lset_0, lset_1, lset_s, avw_I, avw_L, avw_R, clr_cons, clr_nil, kst_0, kst_1, kstL_0, kstL_1, addk_I, pA_0, pA_s, pD_0, pD_s, wid_nil, wid_cons, rcv_c, putv_I, putv_L, List.length_cons, List.length_nil, List.set_cons_zero, List.set_cons_succ, not_false_eq_true, Nat.reduceMod, Nat.reduceDiv, Nat.reduceEqDiff, Nat.reduceLT, Nat.reduceLeDiff, Nat.reduceAdd, Nat.reduceSub, reduceIte, Nat.lt_irrefl, Nat.zero_ne_one, Nat.one_ne_zero, Nat.zero_add, List.nil_append, List.cons_append, Option.toList_some, Option.toList_none, forall_const, false_implies, true_implies, false_or, or_false, true_or, or_true, (m_n hm)]
  rw [i_sh1 (by omega)]
  refine c_in (inb_sub (by omega)) ?_
  try simp (disch := omega) only [no0, no1, nz1, nz2, nz3, nz4, nz5, nz7, nz8, Classical.not_not, bz0, bz1, wi_nil, ld_0, ld_s, isIv_I, isLv_L, isRv_R, true_and, and_true, lset_0, lset_1, lset_s, avw_I, avw_L, avw_R, clr_cons, clr_nil, kst_0, kst_1, kstL_0, kstL_1, addk_I, pA_0, pA_s, pD_0, pD_s, wid_nil, wid_cons, rcv_c, putv_I, putv_L, List.length_cons, List.length_nil, List.set_cons_zero, List.set_cons_succ, not_false_eq_true, Nat.reduceMod, Nat.reduceDiv, Nat.reduceEqDiff, Nat.reduceLT, Nat.reduceLeDiff, Nat.reduceAdd, Nat.reduceSub, reduceIte, Nat.lt_irrefl, Nat.zero_ne_one, Nat.one_ne_zero, Nat.zero_add, List.nil_append, List.cons_append, Option.toList_some, Option.toList_none, forall_const, false_implies, true_implies, false_or, or_false, true_or, or_true, i_le, i_lt, i_eq, i_eq0, i_lt0, i_0le, i_0lt, i_le0, i_in1, i_cl, nI_add, pk_mul, pk_sub, i_div, i_rem, i_sh1, i_bit, i_or, i_and, i_andn, nt_le, nf_le, nt_lt, nf_lt, nt_eq, nf_eq, not_true_eq_false, and_self, and_false, false_and, eq_self, Bool.toNat_true, Bool.toNat_false, i_bool, i_bool1, Bool.false_eq_true, Bool.true_eq_false, reduceCtorEq, i_neg1, i_neg2, i_neg3, i_neg4, i_neg5, i_neg6, i_neg7, i_neg8, i_neg9, i_nega, i_negb, i_negc, i_max2, i_min2, bz2, wi_nil]
  repeat (
    first
    | refine s_X9_isSet_0 ?_
    | refine s_X9_isSet_13 ?_
    simp (disch := omega) only [B_X9_isSet_0, wi_iload_n, wi_iconst, wi_aload_n, wi_getfield, fldv_8_10, fds_8_10, cnt_8, wi_ishl, wi_isub, wi_invokestatic, B_X9_isSet_13, wi_ireturn, no0, no1, nz1, nz2, nz3, nz4, nz5, nz7, nz8, Classical.not_not, bz0, bz1, wi_nil, ld_0, ld_s, isIv_I, isLv_L, isRv_R, true_and, and_true, lset_0, lset_1, lset_s, avw_I, avw_L, avw_R, clr_cons, clr_nil, kst_0, kst_1, kstL_0, kstL_1, addk_I, pA_0, pA_s, pD_0, pD_s, wid_nil, wid_cons, rcv_c, putv_I, putv_L, List.length_cons, List.length_nil, List.set_cons_zero, List.set_cons_succ, not_false_eq_true, Nat.reduceMod, Nat.reduceDiv, Nat.reduceEqDiff, Nat.reduceLT, Nat.reduceLeDiff, Nat.reduceAdd, Nat.reduceSub, reduceIte, Nat.lt_irrefl, Nat.zero_ne_one, Nat.one_ne_zero, Nat.zero_add, List.nil_append, List.cons_append, Option.toList_some, Option.toList_none, forall_const, false_implies, true_implies, false_or, or_false, true_or, or_true, i_le, i_lt, i_eq, i_eq0, i_lt0, i_0le, i_0lt, i_le0, i_in1, i_cl, nI_add, pk_mul, pk_sub, i_div, i_rem, i_sh1, i_bit, i_or, i_and, i_andn, nt_le, nf_le, nt_lt, nf_lt, nt_eq, nf_eq, not_true_eq_false, and_self, and_false, false_and, eq_self, Bool.toNat_true, Bool.toNat_false, i_bool, i_bool1, Bool.false_eq_true, Bool.true_eq_false, reduceCtorEq, i_neg1, i_neg2, i_neg3, i_neg4, i_neg5, i_neg6, i_neg7, i_neg8, i_neg9, i_nega, i_negb, i_negc, i_max2, i_min2, bz2])
  exact q
theorem c_need {b : Bool} {k : Nat} {Y : Nat → Nat → Nat} (hm : YrM S k Y) (hn : Y 6 0 ≤ 5) (q : P (some (aI (if b = false then -nI 1 else if Y 6 0 = 0 then -nI 4 else nI 0))) S) : wpM (d + 1) mX9_need [aR 8 0, aI (nI b.toNat)] S P := by
  cases b
  · refine x_entry (ls2 := [aR 8 0, aI (nI false.toNat)]) (Nat.le_of_ble_eq_true rfl) pl_9 rfl (Nat.le_of_ble_eq_true rfl) ?_
    try simp (disch := omega) only [no0, no1, nz1, nz2, nz3, nz4, nz5, nz7, nz8, Classical.not_not, bz0, bz1, wi_nil, ld_0, ld_s, isIv_I, isLv_L, isRv_R, true_and, and_true, lset_0, lset_1, lset_s, avw_I, avw_L, avw_R, clr_cons, clr_nil, kst_0, kst_1, kstL_0, kstL_1, addk_I, pA_0, pA_s, pD_0, pD_s, wid_nil, wid_cons, rcv_c, putv_I, putv_L, List.length_cons, List.length_nil, List.set_cons_zero, List.set_cons_succ, not_false_eq_true, Nat.reduceMod, Nat.reduceDiv, Nat.reduceEqDiff, Nat.reduceLT, Nat.reduceLeDiff, Nat.reduceAdd, Nat.reduceSub, reduceIte, Nat.lt_irrefl, Nat.zero_ne_one, Nat.one_ne_zero, Nat.zero_add, List.nil_append, List.cons_append, Option.toList_some, Option.toList_none, forall_const, false_implies, true_implies, false_or, or_false, true_or, or_true, i_le, i_lt, i_eq, i_eq0, i_lt0, i_0le, i_0lt, i_le0, i_in1, i_cl, nI_add, pk_mul, pk_sub, i_div, i_rem, i_sh1, i_bit, i_or, i_and, i_andn, nt_le, nf_le, nt_lt, nf_lt, nt_eq, nf_eq, not_true_eq_false, and_self, and_false, false_and, eq_self, Bool.toNat_true, Bool.toNat_false, i_bool, i_bool1, Bool.false_eq_true, Bool.true_eq_false, reduceCtorEq, i_neg1, i_neg2, i_neg3, i_neg4, i_neg5, i_neg6, i_neg7, i_neg8, i_neg9, i_nega, i_negb, i_negc, i_max2, i_min2, wi_nil]
    repeat (
      first
      | refine s_X9_need_0 ?_
      | refine s_X9_need_8 ?_
      | refine s_X9_need_20 ?_
      | refine s_X9_need_21 ?_
      simp (disch := omega) only [B_X9_need_0, wi_iload_n, wi_if_ne, wi_iconst, wi_goto, B_X9_need_8, wi_aload_n, wi_getfield, fldv_8_10, fds_8_10, cnt_8, wi_bipush, B_X9_need_20, B_X9_need_21, wi_ireturn, no0, no1, nz1, nz2, nz3, nz4, nz5, nz7, nz8, Classical.not_not, bz0, bz1, wi_nil, ld_0, ld_s, isIv_I, isLv_L, isRv_R, true_and, and_true, lset_0, lset_1, lset_s, avw_I, avw_L, avw_R, clr_cons, clr_nil, kst_0, kst_1, kstL_0, kstL_1, addk_I, pA_0, pA_s, pD_0, pD_s, wid_nil, wid_cons, rcv_c, putv_I, putv_L, List.length_cons, List.length_nil, List.set_cons_zero, List.set_cons_succ, not_false_eq_true, Nat.reduceMod, Nat.reduceDiv, Nat.reduceEqDiff, Nat.reduceLT, Nat.reduceLeDiff, Nat.reduceAdd, Nat.reduceSub, reduceIte, Nat.lt_irrefl, Nat.zero_ne_one, Nat.one_ne_zero, Nat.zero_add, List.nil_append, List.cons_append, Option.toList_some, Option.toList_none, forall_const, false_implies, true_implies, false_or, or_false, true_or, or_true, i_le, i_lt, i_eq, i_eq0, i_lt0, i_0le, i_0lt, i_le0, i_in1, i_cl, nI_add, pk_mul, pk_sub, i_div, i_rem, i_sh1, i_bit, i_or, i_and, i_andn, nt_le, nf_le, nt_lt, nf_lt, nt_eq, nf_eq, not_true_eq_false, and_self, and_false, false_and, eq_self, Bool.toNat_true, Bool.toNat_false, i_bool, i_bool1, Bool.false_eq_true, Bool.true_eq_false, reduceCtorEq, i_neg1, i_neg2, i_neg3, i_neg4, i_neg5, i_neg6, i_neg7, i_neg8, i_neg9, i_nega, i_negb, i_negc, i_max2, i_min2])
    exact q
  · rcases Nat.eq_zero_or_pos (Y 6 0) with e | e
    · refine x_entry (ls2 := [aR 8 0, aI (nI true.toNat)]) (Nat.le_of_ble_eq_true rfl) pl_9 rfl (Nat.le_of_ble_eq_true rfl) ?_
      try simp (disch := omega) only [no0, no1, nz1, nz2, nz3, nz4, nz5, nz7, nz8, Classical.not_not, bz0, bz1, wi_nil, ld_0, ld_s, isIv_I, isLv_L, isRv_R, true_and, and_true, lset_0, lset_1, lset_s, avw_I, avw_L, avw_R, clr_cons, clr_nil, kst_0, kst_1, kstL_0, kstL_1, addk_I, pA_0, pA_s, pD_0, pD_s, wid_nil, wid_cons, rcv_c, putv_I, putv_L, List.length_cons, List.length_nil, List.set_cons_zero, List.set_cons_succ, not_false_eq_true, Nat.reduceMod, Nat.reduceDiv, Nat.reduceEqDiff, Nat.reduceLT, Nat.reduceLeDiff, Nat.reduceAdd, Nat.reduceSub, reduceIte, Nat.lt_irrefl, Nat.zero_ne_one, Nat.one_ne_zero, Nat.zero_add, List.nil_append, List.cons_append, Option.toList_some, Option.toList_none, forall_const, false_implies, true_implies, false_or, or_false, true_or, or_true, i_le, i_lt, i_eq, i_eq0, i_lt0, i_0le, i_0lt, i_le0, i_in1, i_cl, nI_add, pk_mul, pk_sub, i_div, i_rem, i_sh1, i_bit, i_or, i_and, i_andn, nt_le, nf_le, nt_lt, nf_lt, nt_eq, nf_eq, not_true_eq_false, and_self, and_false, false_and, eq_self, Bool.toNat_true, Bool.toNat_false, i_bool, i_bool1, Bool.false_eq_true, Bool.true_eq_false, reduceCtorEq, i_neg1, i_neg2, i_neg3, i_neg4, i_neg5, i_neg6, i_neg7, i_neg8, i_neg9, i_nega, i_negb, i_negc, i_max2, i_min2, (m_n hm), wi_nil]
      repeat (
        first
        | refine s_X9_need_0 ?_
        | refine s_X9_need_8 ?_
        | refine s_X9_need_20 ?_
        | refine s_X9_need_21 ?_
        simp (disch := omega) only [B_X9_need_0, wi_iload_n, wi_if_ne, wi_iconst, wi_goto, B_X9_need_8, wi_aload_n, wi_getfield, fldv_8_10, fds_8_10, cnt_8, wi_bipush, B_X9_need_20, B_X9_need_21, wi_ireturn, no0, no1, nz1, nz2, nz3, nz4, nz5, nz7, nz8, Classical.not_not, bz0, bz1, wi_nil, ld_0, ld_s, isIv_I, isLv_L, isRv_R, true_and, and_true, lset_0, lset_1, lset_s, avw_I, avw_L, avw_R, clr_cons, clr_nil, kst_0, kst_1, kstL_0, kstL_1, addk_I, pA_0, pA_s, pD_0, pD_s, wid_nil, wid_cons, rcv_c, putv_I, putv_L, List.length_cons, List.length_nil, List.set_cons_zero, List.set_cons_succ, not_false_eq_true, Nat.reduceMod, Nat.reduceDiv, Nat.reduceEqDiff, Nat.reduceLT, Nat.reduceLeDiff, Nat.reduceAdd, Nat.reduceSub, reduceIte, Nat.lt_irrefl, Nat.zero_ne_one, Nat.one_ne_zero, Nat.zero_add, List.nil_append, List.cons_append, Option.toList_some, Option.toList_none, forall_const, false_implies, true_implies, false_or, or_false, true_or, or_true, i_le, i_lt, i_eq, i_eq0, i_lt0, i_0le, i_0lt, i_le0, i_in1, i_cl, nI_add, pk_mul, pk_sub, i_div, i_rem, i_sh1, i_bit, i_or, i_and, i_andn, nt_le, nf_le, nt_lt, nf_lt, nt_eq, nf_eq, not_true_eq_false, and_self, and_false, false_and, eq_self, Bool.toNat_true, Bool.toNat_false, i_bool, i_bool1, Bool.false_eq_true, Bool.true_eq_false, reduceCtorEq, i_neg1, i_neg2, i_neg3, i_neg4, i_neg5, i_neg6, i_neg7, i_neg8, i_neg9, i_nega, i_negb, i_negc, i_max2, i_min2, (m_n hm)])
      rw [if_neg (by decide), if_pos e] at q
      exact q
    · refine x_entry (ls2 := [aR 8 0, aI (nI true.toNat)]) (Nat.le_of_ble_eq_true rfl) pl_9 rfl (Nat.le_of_ble_eq_true rfl) ?_
      try simp (disch := omega) only [no0, no1, nz1, nz2, nz3, nz4, nz5, nz7, nz8, Classical.not_not, bz0, bz1, wi_nil, ld_0, ld_s, isIv_I, isLv_L, isRv_R, true_and, and_true, lset_0, lset_1, lset_s, avw_I, avw_L, avw_R, clr_cons, clr_nil, kst_0, kst_1, kstL_0, kstL_1, addk_I, pA_0, pA_s, pD_0, pD_s, wid_nil, wid_cons, rcv_c, putv_I, putv_L, List.length_cons, List.length_nil, List.set_cons_zero, List.set_cons_succ, not_false_eq_true, Nat.reduceMod, Nat.reduceDiv, Nat.reduceEqDiff, Nat.reduceLT, Nat.reduceLeDiff, Nat.reduceAdd, Nat.reduceSub, reduceIte, Nat.lt_irrefl, Nat.zero_ne_one, Nat.one_ne_zero, Nat.zero_add, List.nil_append, List.cons_append, Option.toList_some, Option.toList_none, forall_const, false_implies, true_implies, false_or, or_false, true_or, or_true, i_le, i_lt, i_eq, i_eq0, i_lt0, i_0le, i_0lt, i_le0, i_in1, i_cl, nI_add, pk_mul, pk_sub, i_div, i_rem, i_sh1, i_bit, i_or, i_and, i_andn, nt_le, nf_le, nt_lt, nf_lt, nt_eq, nf_eq, not_true_eq_false, and_self, and_false, false_and, eq_self, Bool.toNat_true, Bool.toNat_false, i_bool, i_bool1, Bool.false_eq_true, Bool.true_eq_false, reduceCtorEq, i_neg1, i_neg2, i_neg3, i_neg4, i_neg5, i_neg6, i_neg7, i_neg8, i_neg9, i_nega, i_negb, i_negc, i_max2, i_min2, (m_n hm), wi_nil]
      repeat (
        first
        | refine s_X9_need_0 ?_
        | refine s_X9_need_8 ?_
        | refine s_X9_need_20 ?_
        | refine s_X9_need_21 ?_
        simp (disch := omega) only [B_X9_need_0, wi_iload_n, wi_if_ne, wi_iconst, wi_goto, B_X9_need_8, wi_aload_n, wi_getfield, fldv_8_10, fds_8_10, cnt_8, wi_bipush, B_X9_need_20, B_X9_need_21, wi_ireturn, no0, no1, nz1, nz2, nz3, nz4, nz5, nz7, nz8, Classical.not_not, bz0, bz1, wi_nil, ld_0, ld_s, isIv_I, isLv_L, isRv_R, true_and, and_true, lset_0, lset_1, lset_s, avw_I, avw_L, avw_R, clr_cons, clr_nil, kst_0, kst_1, kstL_0, kstL_1, addk_I, pA_0, pA_s, pD_0, pD_s, wid_nil, wid_cons, rcv_c, putv_I, putv_L, List.length_cons, List.length_nil, List.set_cons_zero, List.set_cons_succ, not_false_eq_true, Nat.reduceMod, Nat.reduceDiv, Nat.reduceEqDiff, Nat.reduceLT, Nat.reduceLeDiff, Nat.reduceAdd, Nat.reduceSub, reduceIte, Nat.lt_irrefl, Nat.zero_ne_one, Nat.one_ne_zero, Nat.zero_add, List.nil_append, List.cons_append, Option.toList_some, Option.toList_none, forall_const, false_implies, true_implies, false_or, or_false, true_or, or_true, i_le, i_lt, i_eq, i_eq0, i_lt0, i_0le, i_0lt, i_le0, i_in1, i_cl, nI_add, pk_mul, pk_sub, i_div, i_rem, i_sh1, i_bit, i_or, i_and, i_andn, nt_le, nf_le, nt_lt, nf_lt, nt_eq, nf_eq, not_true_eq_false, and_self, and_false, false_and, eq_self, Bool.toNat_true, Bool.toNat_false, i_bool, i_bool1, Bool.false_eq_true, Bool.true_eq_false, reduceCtorEq, i_neg1, i_neg2, i_neg3, i_neg4, i_neg5, i_neg6, i_neg7, i_neg8, i_neg9, i_nega, i_negb, i_negc, i_max2, i_min2, (m_n hm)])
      rw [if_neg (by decide), if_neg (by omega)] at q
      exact q
theorem c_rowAt {r i : Nat} {rs : Nat → Nat} {rc : Nat → Nat → Int32} (ht : Tb S 31 32 6 40 rs rc) (hr : r < 6) (hi : i + 1 < rs r) (q : P (some (aI (rc r i))) S) : wpM (d + 1) mX9_rowAt [aR 8 0, aI (nI r), aI (nI i)] S P := by
  have h := ht r hr
  refine x_entry (ls2 := [aR 8 0, aI (nI r), aI (nI i)]) (Nat.le_of_ble_eq_true rfl) pl_9 rfl (Nat.le_of_ble_eq_true rfl) ?_
  try simp (disch := omega) only [no0, no1, nz1, nz2, nz3, nz4, nz5, nz7, nz8, Classical.not_not, bz0, bz1, wi_nil, ld_0, ld_s, isIv_I, isLv_L, isRv_R, true_and, and_true, lset_0, lset_1, lset_s, avw_I, avw_L, avw_R, clr_cons, clr_nil, kst_0, kst_1, kstL_0, kstL_1, addk_I, pA_0, pA_s, pD_0, pD_s, wid_nil, wid_cons, rcv_c, putv_I, putv_L, List.length_cons, List.length_nil, List.set_cons_zero, List.set_cons_succ, not_false_eq_true, Nat.reduceMod, Nat.reduceDiv, Nat.reduceEqDiff, Nat.reduceLT, Nat.reduceLeDiff, Nat.reduceAdd, Nat.reduceSub, reduceIte, Nat.lt_irrefl, Nat.zero_ne_one, Nat.one_ne_zero, Nat.zero_add, List.nil_append, List.cons_append, Option.toList_some, Option.toList_none, forall_const, false_implies, true_implies, false_or, or_false, true_or, or_true, i_le, i_lt, i_eq, i_eq0, i_lt0, i_0le, i_0lt, i_le0, i_in1, i_cl, nI_add, pk_mul, pk_sub, i_div, i_rem, i_sh1, i_bit, i_or, i_and, i_andn, nt_le, nf_le, nt_lt, nf_lt, nt_eq, nf_eq, not_true_eq_false, and_self, and_false, false_and, eq_self, Bool.toNat_true, Bool.toNat_false, i_bool, i_bool1, Bool.false_eq_true, Bool.true_eq_false, reduceCtorEq, i_neg1, i_neg2, i_neg3, i_neg4, i_neg5, i_neg6, i_neg7, i_neg8, i_neg9, i_nega, i_negb, i_negc, i_max2, i_min2, (h.2.2 i hi), wi_nil]
  repeat (
    first
    | refine s_X9_rowAt_0 ?_
    simp (disch := omega) only [B_X9_rowAt_0, wi_aload_n, wi_getfield, fldv_8_6, fds_8_6, cnt_8, wi_bipush, wi_iload_n, wi_imul, wi_iadd, wi_iaload, wi_ireturn, cnt_32, aTy_32, aLn_32, arr_32, no0, no1, nz1, nz2, nz3, nz4, nz5, nz7, nz8, Classical.not_not, bz0, bz1, wi_nil, ld_0, ld_s, isIv_I, isLv_L, isRv_R, true_and, and_true, lset_0, lset_1, lset_s, avw_I, avw_L, avw_R, clr_cons, clr_nil, kst_0, kst_1, kstL_0, kstL_1, addk_I, pA_0, pA_s, pD_0, pD_s, wid_nil, wid_cons, rcv_c, putv_I, putv_L, List.length_cons, List.length_nil, List.set_cons_zero, List.set_cons_succ, not_false_eq_true, Nat.reduceMod, Nat.reduceDiv, Nat.reduceEqDiff, Nat.reduceLT, Nat.reduceLeDiff, Nat.reduceAdd, Nat.reduceSub, reduceIte, Nat.lt_irrefl, Nat.zero_ne_one, Nat.one_ne_zero, Nat.zero_add, List.nil_append, List.cons_append, Option.toList_some, Option.toList_none, forall_const, false_implies, true_implies, false_or, or_false, true_or, or_true, i_le, i_lt, i_eq, i_eq0, i_lt0, i_0le, i_0lt, i_le0, i_in1, i_cl, nI_add, pk_mul, pk_sub, i_div, i_rem, i_sh1, i_bit, i_or, i_and, i_andn, nt_le, nf_le, nt_lt, nf_lt, nt_eq, nf_eq, not_true_eq_false, and_self, and_false, false_and, eq_self, Bool.toNat_true, Bool.toNat_false, i_bool, i_bool1, Bool.false_eq_true, Bool.true_eq_false, reduceCtorEq, i_neg1, i_neg2, i_neg3, i_neg4, i_neg5, i_neg6, i_neg7, i_neg8, i_neg9, i_nega, i_negb, i_negc, i_max2, i_min2, (h.2.2 i hi)])
  exact q
theorem c_byteAt {t i : Nat} {rs : Nat → Nat} {rc : Nat → Nat → Int32} (ht : Tb S 34 35 4 60 rs rc) (hr : t < 4) (hi : i < 1000) (q : P (some (aI (if i + 1 < rs t then rc t i else nI 0))) S) : wpM (d + 1) mX9_byteAt [aR 8 0, aI (nI t), aI (nI i)] S P := by
  have h := ht t hr
  by_cases hz : i + 1 < rs t
  · rw [if_pos hz] at q
    refine x_entry (ls2 := [aR 8 0, aI (nI t), aI (nI i)]) (Nat.le_of_ble_eq_true rfl) pl_9 rfl (Nat.le_of_ble_eq_true rfl) ?_
    try simp (disch := omega) only [no0, no1, nz1, nz2, nz3, nz4, nz5, nz7, nz8, Classical.not_not, bz0, bz1, wi_nil, ld_0, ld_s, isIv_I, isLv_L, isRv_R, true_and, and_true, lset_0, lset_1, lset_s, avw_I, avw_L, avw_R, clr_cons, clr_nil, kst_0, kst_1, kstL_0, kstL_1, addk_I, pA_0, pA_s, pD_0, pD_s, wid_nil, wid_cons, rcv_c, putv_I, putv_L, List.length_cons, List.length_nil, List.set_cons_zero, List.set_cons_succ, not_false_eq_true, Nat.reduceMod, Nat.reduceDiv, Nat.reduceEqDiff, Nat.reduceLT, Nat.reduceLeDiff, Nat.reduceAdd, Nat.reduceSub, reduceIte, Nat.lt_irrefl, Nat.zero_ne_one, Nat.one_ne_zero, Nat.zero_add, List.nil_append, List.cons_append, Option.toList_some, Option.toList_none, forall_const, false_implies, true_implies, false_or, or_false, true_or, or_true, i_le, i_lt, i_eq, i_eq0, i_lt0, i_0le, i_0lt, i_le0, i_in1, i_cl, nI_add, pk_mul, pk_sub, i_div, i_rem, i_sh1, i_bit, i_or, i_and, i_andn, nt_le, nf_le, nt_lt, nf_lt, nt_eq, nf_eq, not_true_eq_false, and_self, and_false, false_and, eq_self, Bool.toNat_true, Bool.toNat_false, i_bool, i_bool1, Bool.false_eq_true, Bool.true_eq_false, reduceCtorEq, i_neg1, i_neg2, i_neg3, i_neg4, i_neg5, i_neg6, i_neg7, i_neg8, i_neg9, i_nega, i_negb, i_negc, i_max2, i_min2, h.1, (sz_le (z := rs t) (i := i) (by omega) (by omega)), (h.2.2 i hz), wi_nil]
    repeat (
      first
      | refine s_X9_byteAt_0 ?_
      | refine s_X9_byteAt_24 ?_
      | refine s_X9_byteAt_25 ?_
      simp (disch := omega) only [B_X9_byteAt_0, wi_iload_n, wi_aload_n, wi_getfield, fldv_8_8, fds_8_8, cnt_8, wi_iaload, wi_icmp_ge, fldv_8_9, fds_8_9, wi_bipush, wi_imul, wi_iadd, wi_baload, wi_goto, cnt_34, aTy_34, aLn_34, arr_34, cnt_35, aTy_35, aLn_35, arr_35, bsv_35, B_X9_byteAt_24, wi_iconst, B_X9_byteAt_25, wi_ireturn, no0, no1, nz1, nz2, nz3, nz4, nz5, nz7, nz8, Classical.not_not, bz0, bz1, wi_nil, ld_0, ld_s, isIv_I, isLv_L, isRv_R, true_and, and_true, lset_0, lset_1, lset_s, avw_I, avw_L, avw_R, clr_cons, clr_nil, kst_0, kst_1, kstL_0, kstL_1, addk_I, pA_0, pA_s, pD_0, pD_s, wid_nil, wid_cons, rcv_c, putv_I, putv_L, List.length_cons, List.length_nil, List.set_cons_zero, List.set_cons_succ, not_false_eq_true, Nat.reduceMod, Nat.reduceDiv, Nat.reduceEqDiff, Nat.reduceLT, Nat.reduceLeDiff, Nat.reduceAdd, Nat.reduceSub, reduceIte, Nat.lt_irrefl, Nat.zero_ne_one, Nat.one_ne_zero, Nat.zero_add, List.nil_append, List.cons_append, Option.toList_some, Option.toList_none, forall_const, false_implies, true_implies, false_or, or_false, true_or, or_true, i_le, i_lt, i_eq, i_eq0, i_lt0, i_0le, i_0lt, i_le0, i_in1, i_cl, nI_add, pk_mul, pk_sub, i_div, i_rem, i_sh1, i_bit, i_or, i_and, i_andn, nt_le, nf_le, nt_lt, nf_lt, nt_eq, nf_eq, not_true_eq_false, and_self, and_false, false_and, eq_self, Bool.toNat_true, Bool.toNat_false, i_bool, i_bool1, Bool.false_eq_true, Bool.true_eq_false, reduceCtorEq, i_neg1, i_neg2, i_neg3, i_neg4, i_neg5, i_neg6, i_neg7, i_neg8, i_neg9, i_nega, i_negb, i_negc, i_max2, i_min2, h.1, (sz_le (z := rs t) (i := i) (by omega) (by omega)), (h.2.2 i hz)])
    exact q
  · rw [if_neg hz] at q
    refine x_entry (ls2 := [aR 8 0, aI (nI t), aI (nI i)]) (Nat.le_of_ble_eq_true rfl) pl_9 rfl (Nat.le_of_ble_eq_true rfl) ?_
    try simp (disch := omega) only [no0, no1, nz1, nz2, nz3, nz4, nz5, nz7, nz8, Classical.not_not, bz0, bz1, wi_nil, ld_0, ld_s, isIv_I, isLv_L, isRv_R, true_and, and_true, lset_0, lset_1, lset_s, avw_I, avw_L, avw_R, clr_cons, clr_nil, kst_0, kst_1, kstL_0, kstL_1, addk_I, pA_0, pA_s, pD_0, pD_s, wid_nil, wid_cons, rcv_c, putv_I, putv_L, List.length_cons, List.length_nil, List.set_cons_zero, List.set_cons_succ, not_false_eq_true, Nat.reduceMod, Nat.reduceDiv, Nat.reduceEqDiff, Nat.reduceLT, Nat.reduceLeDiff, Nat.reduceAdd, Nat.reduceSub, reduceIte, Nat.lt_irrefl, Nat.zero_ne_one, Nat.one_ne_zero, Nat.zero_add, List.nil_append, List.cons_append, Option.toList_some, Option.toList_none, forall_const, false_implies, true_implies, false_or, or_false, true_or, or_true, i_le, i_lt, i_eq, i_eq0, i_lt0, i_0le, i_0lt, i_le0, i_in1, i_cl, nI_add, pk_mul, pk_sub, i_div, i_rem, i_sh1, i_bit, i_or, i_and, i_andn, nt_le, nf_le, nt_lt, nf_lt, nt_eq, nf_eq, not_true_eq_false, and_self, and_false, false_and, eq_self, Bool.toNat_true, Bool.toNat_false, i_bool, i_bool1, Bool.false_eq_true, Bool.true_eq_false, reduceCtorEq, i_neg1, i_neg2, i_neg3, i_neg4, i_neg5, i_neg6, i_neg7, i_neg8, i_neg9, i_nega, i_negb, i_negc, i_max2, i_min2, h.1, (sz_le (z := rs t) (i := i) (by omega) (by omega)), wi_nil]
    repeat (
      first
      | refine s_X9_byteAt_0 ?_
      | refine s_X9_byteAt_24 ?_
      | refine s_X9_byteAt_25 ?_
      simp (disch := omega) only [B_X9_byteAt_0, wi_iload_n, wi_aload_n, wi_getfield, fldv_8_8, fds_8_8, cnt_8, wi_iaload, wi_icmp_ge, fldv_8_9, fds_8_9, wi_bipush, wi_imul, wi_iadd, wi_baload, wi_goto, cnt_34, aTy_34, aLn_34, arr_34, cnt_35, aTy_35, aLn_35, arr_35, bsv_35, B_X9_byteAt_24, wi_iconst, B_X9_byteAt_25, wi_ireturn, no0, no1, nz1, nz2, nz3, nz4, nz5, nz7, nz8, Classical.not_not, bz0, bz1, wi_nil, ld_0, ld_s, isIv_I, isLv_L, isRv_R, true_and, and_true, lset_0, lset_1, lset_s, avw_I, avw_L, avw_R, clr_cons, clr_nil, kst_0, kst_1, kstL_0, kstL_1, addk_I, pA_0, pA_s, pD_0, pD_s, wid_nil, wid_cons, rcv_c, putv_I, putv_L, List.length_cons, List.length_nil, List.set_cons_zero, List.set_cons_succ, not_false_eq_true, Nat.reduceMod, Nat.reduceDiv, Nat.reduceEqDiff, Nat.reduceLT, Nat.reduceLeDiff, Nat.reduceAdd, Nat.reduceSub, reduceIte, Nat.lt_irrefl, Nat.zero_ne_one, Nat.one_ne_zero, Nat.zero_add, List.nil_append, List.cons_append, Option.toList_some, Option.toList_none, forall_const, false_implies, true_implies, false_or, or_false, true_or, or_true, i_le, i_lt, i_eq, i_eq0, i_lt0, i_0le, i_0lt, i_le0, i_in1, i_cl, nI_add, pk_mul, pk_sub, i_div, i_rem, i_sh1, i_bit, i_or, i_and, i_andn, nt_le, nf_le, nt_lt, nf_lt, nt_eq, nf_eq, not_true_eq_false, and_self, and_false, false_and, eq_self, Bool.toNat_true, Bool.toNat_false, i_bool, i_bool1, Bool.false_eq_true, Bool.true_eq_false, reduceCtorEq, i_neg1, i_neg2, i_neg3, i_neg4, i_neg5, i_neg6, i_neg7, i_neg8, i_neg9, i_nega, i_negb, i_negc, i_max2, i_min2, h.1, (sz_le (z := rs t) (i := i) (by omega) (by omega))])
    exact q
end
