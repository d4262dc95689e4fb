-- PART 22: reading a text as a year
/-- a figure at p -/
def dgt (b : Nat → Int32) (n p : Nat) : Option Nat := if p < n ∧ 48 ≤ (b p).toInt ∧ (b p).toInt ≤ 57 then some ((b p).toInt - 48).toNat else none
def kl (x : Int32) : Option Nat := if x = nI 100 then some 0 else if x = nI 114 then some 1 else if x = nI 115 then some 2 else if x = nI 109 then some 3 else if x = nI 104 then some 4 else if x = nI 102 then some 5 else none
def skf (b : Nat → Int32) : Nat → Nat → Nat
  | 0, p => p
  | k + 1, p => if b p = nI 32 then skf b k (p + 1) else p
/-- the first place from p on that is no blank -/
def skp (b : Nat → Int32) (n p : Nat) : Nat := skf b (n - p) p
theorem skp_end {b : Nat → Int32} {n p : Nat} (h : n ≤ p) : skp b n p = p := by unfold skp; rw [show n - p = 0 by omega]; rfl
theorem skp_no {b : Nat → Int32} {n p : Nat} (h : ¬ b p = nI 32) : skp b n p = p := by
  unfold skp
  cases n - p with
  | zero => rfl
  | succ k => unfold skf; rw [if_neg h]
theorem skp_yes {b : Nat → Int32} {n p : Nat} (hp : p < n) (h : b p = nI 32) : skp b n p = skp b n (p + 1) := by
  unfold skp
  rw [show n - p = n - (p + 1) + 1 by omega]
  rw [skf, if_pos h]
theorem skf_spec {b : Nat → Int32} : ∀ (k p : Nat), p ≤ skf b k p ∧ skf b k p ≤ p + k ∧ (skf b k p < p + k → ¬ b (skf b k p) = nI 32) := by
  intro k
  induction k with
  | zero => intro p; exact ⟨Nat.le_refl p, Nat.le_refl p, fun h => absurd h (Nat.lt_irrefl p)⟩
  | succ k ih =>
    intro p
    unfold skf
    split
    · obtain ⟨a1, a2, a3⟩ := ih (p + 1)
      exact ⟨by omega, by omega, fun h => a3 (by omega)⟩
    · rename_i h
      exact ⟨Nat.le_refl p, by omega, fun _ => h⟩
theorem skp_spec {b : Nat → Int32} {n p : Nat} (hp : p ≤ n) : p ≤ skp b n p ∧ skp b n p ≤ n ∧ (skp b n p < n → ¬ b (skp b n p) = nI 32) := by
  obtain ⟨a1, a2, a3⟩ := skf_spec (b := b) (n - p) p
  unfold skp
  exact ⟨a1, by omega, fun h => a3 (by omega)⟩
def figs3 (b : Nat → Int32) (n p : Nat) : Nat ⊕ (Nat × Nat × Nat) := match dgt b n p with
  | none => .inl p
  | some x => match dgt b n (p + 1) with
    | none => .inl (p + 1)
    | some y => match dgt b n (p + 2) with
      | none => .inl (p + 2)
      | some z => .inr (x, y, z)
/-- the deeds from p on -/
def plD (b : Nat → Int32) (n : Nat) : Nat → Nat → List (Nat × Nat × Nat × Nat) → Nat ⊕ List (Nat × Nat × Nat × Nat)
  | 0, p, _ => .inl p
  | k + 1, p, acc => if n ≤ skp b n p then (if acc.length = 0 then .inl n else .inr acc) else match kl (b (skp b n p)) with
    | none => .inl (skp b n p)
    | some kd => if acc.length = 5 then .inl (skp b n p) else match figs3 b n (skp b n p + 1) with
      | .inl e => .inl e
      | .inr x => plD b n k (skp b n p + 4) (acc ++ [(kd, x.1, x.2.1, x.2.2)])
/-- a year's head at q -/
def hdD (b : Nat → Int32) (n q : Nat) : Nat ⊕ (Nat × Nat) := if n ≤ q ∨ ¬ b q = nI 119 then .inl q else match dgt b n (q + 1) with
  | none => .inl (q + 1)
  | some x => match dgt b n (q + 2) with
    | none => .inl (q + 2)
    | some y => if 40 < 10 * x + y then .inl (q + 1) else match dgt b n (q + 3) with
      | none => .inl (q + 3)
      | some z => .inr (10 * x + y, z)
/-- what a text of n bytes b is: the place of its fault, or will, offs, deeds -/
def prs (b : Nat → Int32) (n : Nat) : Nat ⊕ (Nat × Nat × List (Nat × Nat × Nat × Nat)) := match hdD b n (skp b n 0) with
  | .inl e => .inl e
  | .inr h => match plD b n 61 (skp b n 0 + 4) [] with
    | .inl e => .inl e
    | .inr l => .inr (h.1, h.2, l)
def byO (b : Nat → Int32) : Prop := ∀ p, -128 ≤ (b p).toInt ∧ (b p).toInt ≤ 127
theorem dgt_lt {b : Nat → Int32} {n p v : Nat} (h : dgt b n p = some v) : v ≤ 9 ∧ p < n ∧ b p - nI 48 = nI v := by
  unfold dgt at h
  split at h
  · rename_i q
    cases h
    refine ⟨by omega, q.1, ?_⟩
    apply Int32.toInt_inj.mp
    rw [fb_subI (by rw [nI_toInt (by decide)]; omega) (by rw [nI_toInt (by decide)]; omega), nI_toInt (by decide), nI_toInt (by omega)]
    omega
  · cases h
theorem dgt_no {b : Nat → Int32} {n p : Nat} (hb : byO b) (h : dgt b n p = none) (hp : p < n) : b p - nI 48 < 0 ∨ nI 9 < b p - nI 48 := by
  have h2 := hb p
  unfold dgt at h
  split at h
  · cases h
  · rename_i q
    have e : (b p - nI 48).toInt = (b p).toInt - 48 := by rw [fb_subI (by rw [nI_toInt (by decide)]; omega) (by rw [nI_toInt (by decide)]; omega), nI_toInt (by decide)]; rfl
    rw [Int32.lt_iff_toInt_lt, Int32.lt_iff_toInt_lt, e, Int32.toInt_zero, nI_toInt (by decide)]
    omega
/-- all but the reader's numbers and year 2 is as it was -/
def FRY (S S2 : MS) : Prop := (∀ k i f, ¬ k = 2 → ¬ (k = 6 ∧ i = 2) → gI S2 k i f = gI S k i f) ∧ (∀ k i f, gL S2 k i f = gL S k i f) ∧ ∀ k i, ¬ (20 ≤ k ∧ k ≤ 26 ∧ i = 2) → gA S2 k i = gA S k i
theorem FRY.refl {S : MS} : FRY S S := ⟨fun _ _ _ _ _ => rfl, fun _ _ _ => rfl, fun _ _ _ => rfl⟩
theorem FRY.trans {S T U : MS} (h1 : FRY S T) (h2 : FRY T U) : FRY S U := ⟨fun k i f h g => (h2.1 k i f h g).trans (h1.1 k i f h g), fun k i f => (h2.2.1 k i f).trans (h1.2.1 k i f), fun k i h => (h2.2.2 k i h).trans (h1.2.2 k i h)⟩
theorem FRY_s {S : MS} {f : Nat} {v : Int32} : FRY S (sI S 2 0 f v) := ⟨fun k i g h _ => by rw [gI_sI, if_neg (fun q => h q.1)], fun _ _ _ => rfl, fun _ _ _ => rfl⟩
theorem FRY_y {S S2 : MS} (h : FY 2 S S2) : FRY S S2 := ⟨fun k i f _ h2 => h.1 k i f h2, h.2.1, h.2.2⟩
theorem tb_fry {S S2 : MS} {kz kc N w : Nat} {rs : Nat → Nat} {rc : Nat → Nat → Int32} (h : Tb S kz kc N w rs rc) (hf : FRY S S2) (h1 : ¬ (20 ≤ kz ∧ kz ≤ 26)) (h2 : ¬ (20 ≤ kc ∧ kc ≤ 26)) : Tb S2 kz kc N w rs rc := fun r hr => by
  rw [hf.2.2 kz 0 (by omega), hf.2.2 kc 0 (by omega)]
  exact h r hr
theorem yrx_s2 {S : MS} {j f : Nat} {v : Int32} {Y : Nat → Nat → Nat} (h : YrX S j Y) : YrX (sI S 2 0 f v) j Y := ⟨h.1, fun t ht => by rw [gI_sI, if_neg (by omega)]; exact h.2 t ht⟩
def wrI (w : Option Nat) : Int32 := match w with
  | none => -nI 9
  | some q => nI q
theorem wr_eq {w : Option Nat} (h : ∀ q, w = some q → q < 1000) : (wrI w = -nI 9) = (w = none) := by
  cases w with
  | none => exact propext ⟨fun _ => rfl, fun _ => rfl⟩
  | some q =>
    refine propext ⟨fun e => ?_, fun e => by cases e⟩
    have h1 := congrArg Int32.toInt e
    have h2 := h q rfl
    have h3 : (nI q).toInt = (-nI 9).toInt := h1
    rw [nI_toInt (by omega), neg_toInt (by decide)] at h3
    omega
/-- the reader stands at p of a text of n bytes, w is wrong -/
def RdX (S : MS) (t n p : Nat) (w : Option Nat) : Prop := gI S 2 0 1 = nI t ∧ gI S 2 0 2 = nI n ∧ gI S 2 0 3 = nI p ∧ gI S 2 0 4 = wrI w
theorem rdx_3 {S : MS} {t n p p2 : Nat} {w : Option Nat} (h : RdX S t n p w) : RdX (sI S 2 0 3 (nI p2)) t n p2 w := ⟨h.1, h.2.1, rfl, h.2.2.2⟩
theorem rdx_4 {S : MS} {t n p : Nat} {w w2 : Option Nat} {v : Int32} (h : RdX S t n p w) (hv : v = wrI w2) : RdX (sI S 2 0 4 v) t n p w2 := ⟨h.1, h.2.1, h.2.2.1, hv⟩
theorem rdx_y {S S2 : MS} {t n p : Nat} {w : Option Nat} (h : RdX S t n p w) (hf : FY 2 S S2) : RdX S2 t n p w := ⟨by rw [hf.1 2 0 1 (by decide)]; exact h.1, by rw [hf.1 2 0 2 (by decide)]; exact h.2.1, by rw [hf.1 2 0 3 (by decide)]; exact h.2.2.1, by rw [hf.1 2 0 4 (by decide)]; exact h.2.2.2⟩
section
variable {d t n : Nat} {S : MS} {P : Option AV → MS → Prop} {rs : Nat → Nat} {rc : Nat → Nat → Int32} {Y : Nat → Nat → Nat}
theorem l_blanks {w : Option Nat} (ht4 : t < 4) (hn : rs t = n + 1) : ∀ (k p : Nat) (S : MS), p + k = n → Tb S 17 18 4 60 rs rc → RdX S t n p w → YrX S 2 Y → (∀ S2, RdX S2 t n (skp (rc t) n p) w → YrX S2 2 Y → FRY S S2 → P none S2) → wpX (d + 1) mX3_passBlanks 0 [aR 2 0] [] S P := by
  intro k
  induction k with
  | zero =>
    intro p S hp ht hr hy q
    have hz := ht t ht4
    refine s_X3_passBlanks_0 ?_
    simp only [B_X3_passBlanks_0, wi_aload_n, wi_getfield, fldv_2_3, fds_2_3, cnt_2, fldv_2_2, fds_2_2, wi_icmp_ge, fldv_2_0, fds_2_0, fldv_2_1, fds_2_1, wi_invokevirtual, cnt_5, no0, no1, nz1, nz2, nz3, nz4, nz5, nz7, nz8, Classical.not_not, bz0, bz1, wi_nil, ld_0, ld_s, isIv_I, isLv_L, isRv_R, true_and, and_true, lset_0, lset_1, lset_s, avw_I, avw_L, avw_R, clr_cons, clr_nil, kst_0, kst_1, kstL_0, kstL_1, addk_I, pA_0, pA_s, pD_0, pD_s, wid_nil, wid_cons, rcv_c, putv_I, putv_L, List.length_cons, List.length_nil, List.set_cons_zero, List.set_cons_succ, not_false_eq_true, Nat.reduceMod, Nat.reduceDiv, Nat.reduceEqDiff, Nat.reduceLT, Nat.reduceLeDiff, Nat.reduceAdd, Nat.reduceSub, reduceIte, Nat.lt_irrefl, Nat.zero_ne_one, Nat.one_ne_zero, Nat.zero_add, List.nil_append, List.cons_append, Option.toList_some, Option.toList_none, forall_const, false_implies, true_implies, false_or, or_false, true_or, or_true]
    rw [hr.2.1, hr.2.2.1, i_le (by omega) (by omega)]
    refine ⟨fun _ => ?_, fun h => absurd (by omega) h⟩
    refine s_X3_passBlanks_44 ?_
    simp only [B_X3_passBlanks_44, wi_return_, no0, no1, nz1, nz2, nz3, nz4, nz5, nz7, nz8, Classical.not_not, bz0, bz1, wi_nil, ld_0, ld_s, isIv_I, isLv_L, isRv_R, true_and, and_true, lset_0, lset_1, lset_s, avw_I, avw_L, avw_R, clr_cons, clr_nil, kst_0, kst_1, kstL_0, kstL_1, addk_I, pA_0, pA_s, pD_0, pD_s, wid_nil, wid_cons, rcv_c, putv_I, putv_L, List.length_cons, List.length_nil, List.set_cons_zero, List.set_cons_succ, not_false_eq_true, Nat.reduceMod, Nat.reduceDiv, Nat.reduceEqDiff, Nat.reduceLT, Nat.reduceLeDiff, Nat.reduceAdd, Nat.reduceSub, reduceIte, Nat.lt_irrefl, Nat.zero_ne_one, Nat.one_ne_zero, Nat.zero_add, List.nil_append, List.cons_append, Option.toList_some, Option.toList_none, forall_const, false_implies, true_implies, false_or, or_false, true_or, or_true]
    refine q S ?_ hy FRY.refl
    rw [skp_end (by omega)]
    exact hr
  | succ k ih =>
    intro p S hp ht hr hy q
    have hz := ht t ht4
    refine s_X3_passBlanks_0 ?_
    simp only [B_X3_passBlanks_0, wi_aload_n, wi_getfield, fldv_2_3, fds_2_3, cnt_2, fldv_2_2, fds_2_2, wi_icmp_ge, fldv_2_0, fds_2_0, fldv_2_1, fds_2_1, wi_invokevirtual, cnt_5, no0, no1, nz1, nz2, nz3, nz4, nz5, nz7, nz8, Classical.not_not, bz0, bz1, wi_nil, ld_0, ld_s, isIv_I, isLv_L, isRv_R, true_and, and_true, lset_0, lset_1, lset_s, avw_I, avw_L, avw_R, clr_cons, clr_nil, kst_0, kst_1, kstL_0, kstL_1, addk_I, pA_0, pA_s, pD_0, pD_s, wid_nil, wid_cons, rcv_c, putv_I, putv_L, List.length_cons, List.length_nil, List.set_cons_zero, List.set_cons_succ, not_false_eq_true, Nat.reduceMod, Nat.reduceDiv, Nat.reduceEqDiff, Nat.reduceLT, Nat.reduceLeDiff, Nat.reduceAdd, Nat.reduceSub, reduceIte, Nat.lt_irrefl, Nat.zero_ne_one, Nat.one_ne_zero, Nat.zero_add, List.nil_append, List.cons_append, Option.toList_some, Option.toList_none, forall_const, false_implies, true_implies, false_or, or_false, true_or, or_true]
    rw [hr.1, hr.2.1, hr.2.2.1, i_le (by omega) (by omega)]
    refine ⟨fun h => absurd h (by omega), fun _ => ?_⟩
    refine c_Tread ht ht4 (by omega) ?_
    refine s_X3_passBlanks_26 ?_
    simp only [B_X3_passBlanks_26, wi_bipush, wi_icmp_ne, wi_aload_n, wi_dup, wi_getfield, fldv_2_3, fds_2_3, cnt_2, wi_iconst, wi_iadd, wi_putfield, pOk_2_3, wi_goto, no0, no1, nz1, nz2, nz3, nz4, nz5, nz7, nz8, Classical.not_not, bz0, bz1, wi_nil, ld_0, ld_s, isIv_I, isLv_L, isRv_R, true_and, and_true, lset_0, lset_1, lset_s, avw_I, avw_L, avw_R, clr_cons, clr_nil, kst_0, kst_1, kstL_0, kstL_1, addk_I, pA_0, pA_s, pD_0, pD_s, wid_nil, wid_cons, rcv_c, putv_I, putv_L, List.length_cons, List.length_nil, List.set_cons_zero, List.set_cons_succ, not_false_eq_true, Nat.reduceMod, Nat.reduceDiv, Nat.reduceEqDiff, Nat.reduceLT, Nat.reduceLeDiff, Nat.reduceAdd, Nat.reduceSub, reduceIte, Nat.lt_irrefl, Nat.zero_ne_one, Nat.one_ne_zero, Nat.zero_add, List.nil_append, List.cons_append, Option.toList_some, Option.toList_none, forall_const, false_implies, true_implies, false_or, or_false, true_or, or_true]
    rw [hr.2.2.1, nI_add]
    refine ⟨fun h => ?_, fun h => ?_⟩
    · refine s_X3_passBlanks_44 ?_
      simp only [B_X3_passBlanks_44, wi_return_, no0, no1, nz1, nz2, nz3, nz4, nz5, nz7, nz8, Classical.not_not, bz0, bz1, wi_nil, ld_0, ld_s, isIv_I, isLv_L, isRv_R, true_and, and_true, lset_0, lset_1, lset_s, avw_I, avw_L, avw_R, clr_cons, clr_nil, kst_0, kst_1, kstL_0, kstL_1, addk_I, pA_0, pA_s, pD_0, pD_s, wid_nil, wid_cons, rcv_c, putv_I, putv_L, List.length_cons, List.length_nil, List.set_cons_zero, List.set_cons_succ, not_false_eq_true, Nat.reduceMod, Nat.reduceDiv, Nat.reduceEqDiff, Nat.reduceLT, Nat.reduceLeDiff, Nat.reduceAdd, Nat.reduceSub, reduceIte, Nat.lt_irrefl, Nat.zero_ne_one, Nat.one_ne_zero, Nat.zero_add, List.nil_append, List.cons_append, Option.toList_some, Option.toList_none, forall_const, false_implies, true_implies, false_or, or_false, true_or, or_true]
      refine q S ?_ hy FRY.refl
      rw [skp_no h]
      exact hr
    · refine ih (p + 1) _ (by omega) (tb_fry ht FRY_s (by decide) (by decide)) (rdx_3 hr) (yrx_s2 hy) (fun S2 z1 z2 z3 => ?_)
      rw [← skp_yes (by omega) h] at z1
      exact q S2 z1 z2 (FRY_s.trans z3)
theorem c_blanks {p : Nat} {w : Option Nat} (ht4 : t < 4) (hn : rs t = n + 1) (hp : p ≤ n) (ht : Tb S 17 18 4 60 rs rc) (hr : RdX S t n p w) (hy : YrX S 2 Y) (q : ∀ S2, RdX S2 t n (skp (rc t) n p) w → YrX S2 2 Y → FRY S S2 → P none S2) : wpM (d + 2) mX3_passBlanks [aR 2 0] S P := by
  refine x_entry (ls2 := [aR 2 0]) (Nat.le_of_ble_eq_true rfl) pl_3 rfl (Nat.le_of_ble_eq_true rfl) ?_
  exact l_blanks ht4 hn (n - p) p S (by omega) ht hr hy q
/-- a figure: its value, what is wrong then, the place -/
def rfg (b : Nat → Int32) (n : Nat) (w : Option Nat) (p : Nat) : Nat × Option Nat × Nat := match w with
  | some q => (0, some q, p)
  | none => match dgt b n p with
    | some v => (v, none, p + 1)
    | none => (0, some p, p)
theorem c_figure {p : Nat} {w : Option Nat} (ht4 : t < 4) (hn : rs t = n + 1) (hp : p ≤ n) (hw : ∀ q, w = some q → q < 1000) (ht : Tb S 17 18 4 60 rs rc) (hb : byO (rc t)) (hr : RdX S t n p w) (hy : YrX S 2 Y) (q : ∀ S2, RdX S2 t n (rfg (rc t) n w p).2.2 (rfg (rc t) n w p).2.1 → YrX S2 2 Y → FRY S S2 → P (some (aI (nI (rfg (rc t) n w p).1))) S2) : wpM (d + 2) mX3_readFigure [aR 2 0] S P := by
  have hz := ht t ht4
  refine x_entry (ls2 := [aR 2 0, aU]) (Nat.le_of_ble_eq_true rfl) pl_3 rfl (Nat.le_of_ble_eq_true rfl) ?_
  refine s_X3_readFigure_0 ?_
  simp only [B_X3_readFigure_0, wi_aload_n, wi_getfield, fldv_2_4, fds_2_4, cnt_2, wi_bipush, wi_icmp_eq, wi_iconst, wi_ireturn, no0, no1, nz1, nz2, nz3, nz4, nz5, nz7, nz8, Classical.not_not, bz0, bz1, wi_nil, ld_0, ld_s, isIv_I, isLv_L, isRv_R, true_and, and_true, lset_0, lset_1, lset_s, avw_I, avw_L, avw_R, clr_cons, clr_nil, kst_0, kst_1, kstL_0, kstL_1, addk_I, pA_0, pA_s, pD_0, pD_s, wid_nil, wid_cons, rcv_c, putv_I, putv_L, List.length_cons, List.length_nil, List.set_cons_zero, List.set_cons_succ, not_false_eq_true, Nat.reduceMod, Nat.reduceDiv, Nat.reduceEqDiff, Nat.reduceLT, Nat.reduceLeDiff, Nat.reduceAdd, Nat.reduceSub, reduceIte, Nat.lt_irrefl, Nat.zero_ne_one, Nat.one_ne_zero, Nat.zero_add, List.nil_append, List.cons_append, Option.toList_some, Option.toList_none, forall_const, false_implies, true_implies, false_or, or_false, true_or, or_true]
  rw [hr.2.2.2, wr_eq hw]
  refine ⟨fun h => ?_, fun h => ?_⟩
  · subst h
    have bad : ∀ v : Int32, (v < 0 ∨ nI 9 < v) → dgt (rc t) n p = none → wpX (d + 1) mX3_readFigure 45 [aR 2 0, aU] [aI v] S P := by
      intro v hv hd
      have fin : wpX (d + 1) mX3_readFigure 56 [aR 2 0, aU] [] S P := by
        refine s_X3_readFigure_56 ?_
        simp only [B_X3_readFigure_56, wi_aload_n, wi_getfield, fldv_2_3, fds_2_3, cnt_2, wi_putfield, pOk_2_4, wi_iconst, wi_ireturn, no0, no1, nz1, nz2, nz3, nz4, nz5, nz7, nz8, Classical.not_not, bz0, bz1, wi_nil, ld_0, ld_s, isIv_I, isLv_L, isRv_R, true_and, and_true, lset_0, lset_1, lset_s, avw_I, avw_L, avw_R, clr_cons, clr_nil, kst_0, kst_1, kstL_0, kstL_1, addk_I, pA_0, pA_s, pD_0, pD_s, wid_nil, wid_cons, rcv_c, putv_I, putv_L, List.length_cons, List.length_nil, List.set_cons_zero, List.set_cons_succ, not_false_eq_true, Nat.reduceMod, Nat.reduceDiv, Nat.reduceEqDiff, Nat.reduceLT, Nat.reduceLeDiff, Nat.reduceAdd, Nat.reduceSub, reduceIte, Nat.lt_irrefl, Nat.zero_ne_one, Nat.one_ne_zero, Nat.zero_add, List.nil_append, List.cons_append, Option.toList_some, Option.toList_none, forall_const, false_implies, true_implies, false_or, or_false, true_or, or_true]
        have e : rfg (rc t) n none p = (0, some p, p) := by unfold rfg; rw [hd]
        rw [e] at q
        exact q _ (rdx_4 hr hr.2.2.1) (yrx_s2 hy) FRY_s
      refine s_X3_readFigure_45 ?_
      simp only [B_X3_readFigure_45, wi_istore_n, wi_iload_n, wi_if_lt, wi_bipush, wi_icmp_le, no0, no1, nz1, nz2, nz3, nz4, nz5, nz7, nz8, Classical.not_not, bz0, bz1, wi_nil, ld_0, ld_s, isIv_I, isLv_L, isRv_R, true_and, and_true, lset_0, lset_1, lset_s, avw_I, avw_L, avw_R, clr_cons, clr_nil, kst_0, kst_1, kstL_0, kstL_1, addk_I, pA_0, pA_s, pD_0, pD_s, wid_nil, wid_cons, rcv_c, putv_I, putv_L, List.length_cons, List.length_nil, List.set_cons_zero, List.set_cons_succ, not_false_eq_true, Nat.reduceMod, Nat.reduceDiv, Nat.reduceEqDiff, Nat.reduceLT, Nat.reduceLeDiff, Nat.reduceAdd, Nat.reduceSub, reduceIte, Nat.lt_irrefl, Nat.zero_ne_one, Nat.one_ne_zero, Nat.zero_add, List.nil_append, List.cons_append, Option.toList_some, Option.toList_none, forall_const, false_implies, true_implies, false_or, or_false, true_or, or_true]
      refine ⟨fun _ => fin, fun h => ⟨fun h2 => ?_, fun _ => fin⟩⟩
      rcases hv with a | a
      · exact absurd a h
      · rw [Int32.le_iff_toInt_le] at h2
        rw [Int32.lt_iff_toInt_lt] at a
        omega
    refine s_X3_readFigure_11 ?_
    simp only [B_X3_readFigure_11, wi_aload_n, wi_getfield, fldv_2_3, fds_2_3, cnt_2, fldv_2_2, fds_2_2, wi_icmp_ge, fldv_2_0, fds_2_0, fldv_2_1, fds_2_1, wi_invokevirtual, cnt_5, no0, no1, nz1, nz2, nz3, nz4, nz5, nz7, nz8, Classical.not_not, bz0, bz1, wi_nil, ld_0, ld_s, isIv_I, isLv_L, isRv_R, true_and, and_true, lset_0, lset_1, lset_s, avw_I, avw_L, avw_R, clr_cons, clr_nil, kst_0, kst_1, kstL_0, kstL_1, addk_I, pA_0, pA_s, pD_0, pD_s, wid_nil, wid_cons, rcv_c, putv_I, putv_L, List.length_cons, List.length_nil, List.set_cons_zero, List.set_cons_succ, not_false_eq_true, Nat.reduceMod, Nat.reduceDiv, Nat.reduceEqDiff, Nat.reduceLT, Nat.reduceLeDiff, Nat.reduceAdd, Nat.reduceSub, reduceIte, Nat.lt_irrefl, Nat.zero_ne_one, Nat.one_ne_zero, Nat.zero_add, List.nil_append, List.cons_append, Option.toList_some, Option.toList_none, forall_const, false_implies, true_implies, false_or, or_false, true_or, or_true]
    rw [hr.1, hr.2.1, hr.2.2.1, i_le (by omega) (by omega)]
    refine ⟨fun h => ?_, fun h => ?_⟩
    · refine s_X3_readFigure_43 ?_
      simp only [B_X3_readFigure_43, wi_bipush, no0, no1, nz1, nz2, nz3, nz4, nz5, nz7, nz8, Classical.not_not, bz0, bz1, wi_nil, ld_0, ld_s, isIv_I, isLv_L, isRv_R, true_and, and_true, lset_0, lset_1, lset_s, avw_I, avw_L, avw_R, clr_cons, clr_nil, kst_0, kst_1, kstL_0, kstL_1, addk_I, pA_0, pA_s, pD_0, pD_s, wid_nil, wid_cons, rcv_c, putv_I, putv_L, List.length_cons, List.length_nil, List.set_cons_zero, List.set_cons_succ, not_false_eq_true, Nat.reduceMod, Nat.reduceDiv, Nat.reduceEqDiff, Nat.reduceLT, Nat.reduceLeDiff, Nat.reduceAdd, Nat.reduceSub, reduceIte, Nat.lt_irrefl, Nat.zero_ne_one, Nat.one_ne_zero, Nat.zero_add, List.nil_append, List.cons_append, Option.toList_some, Option.toList_none, forall_const, false_implies, true_implies, false_or, or_false, true_or, or_true]
      refine bad _ (Or.inl ?_) ?_
      · rw [Int32.lt_iff_toInt_lt, neg_toInt (by decide), Int32.toInt_zero]; decide
      · unfold dgt; rw [if_neg (by omega)]
    · refine c_Tread ht ht4 (by omega) ?_
      refine s_X3_readFigure_37 ?_
      simp only [B_X3_readFigure_37, wi_bipush, wi_isub, wi_goto, no0, no1, nz1, nz2, nz3, nz4, nz5, nz7, nz8, Classical.not_not, bz0, bz1, wi_nil, ld_0, ld_s, isIv_I, isLv_L, isRv_R, true_and, and_true, lset_0, lset_1, lset_s, avw_I, avw_L, avw_R, clr_cons, clr_nil, kst_0, kst_1, kstL_0, kstL_1, addk_I, pA_0, pA_s, pD_0, pD_s, wid_nil, wid_cons, rcv_c, putv_I, putv_L, List.length_cons, List.length_nil, List.set_cons_zero, List.set_cons_succ, not_false_eq_true, Nat.reduceMod, Nat.reduceDiv, Nat.reduceEqDiff, Nat.reduceLT, Nat.reduceLeDiff, Nat.reduceAdd, Nat.reduceSub, reduceIte, Nat.lt_irrefl, Nat.zero_ne_one, Nat.one_ne_zero, Nat.zero_add, List.nil_append, List.cons_append, Option.toList_some, Option.toList_none, forall_const, false_implies, true_implies, false_or, or_false, true_or, or_true]
      cases hd : dgt (rc t) n p with
      | none => exact bad _ (dgt_no hb hd (by omega)) hd
      | some v =>
        obtain ⟨a1, a2, a3⟩ := dgt_lt hd
        rw [a3]
        have e : rfg (rc t) n none p = (v, none, p + 1) := by unfold rfg; rw [hd]
        rw [e] at q
        refine s_X3_readFigure_45 ?_
        simp only [B_X3_readFigure_45, wi_istore_n, wi_iload_n, wi_if_lt, wi_bipush, wi_icmp_le, no0, no1, nz1, nz2, nz3, nz4, nz5, nz7, nz8, Classical.not_not, bz0, bz1, wi_nil, ld_0, ld_s, isIv_I, isLv_L, isRv_R, true_and, and_true, lset_0, lset_1, lset_s, avw_I, avw_L, avw_R, clr_cons, clr_nil, kst_0, kst_1, kstL_0, kstL_1, addk_I, pA_0, pA_s, pD_0, pD_s, wid_nil, wid_cons, rcv_c, putv_I, putv_L, List.length_cons, List.length_nil, List.set_cons_zero, List.set_cons_succ, not_false_eq_true, Nat.reduceMod, Nat.reduceDiv, Nat.reduceEqDiff, Nat.reduceLT, Nat.reduceLeDiff, Nat.reduceAdd, Nat.reduceSub, reduceIte, Nat.lt_irrefl, Nat.zero_ne_one, Nat.one_ne_zero, Nat.zero_add, List.nil_append, List.cons_append, Option.toList_some, Option.toList_none, forall_const, false_implies, true_implies, false_or, or_false, true_or, or_true]
        rw [i_le (by omega) (by decide)]
        refine ⟨fun h => absurd h (nI_pos (by omega)), fun _ => ⟨fun _ => ?_, fun h => absurd a1 h⟩⟩
        refine s_X3_readFigure_66 ?_
        simp only [B_X3_readFigure_66, wi_aload_n, wi_dup, wi_getfield, fldv_2_3, fds_2_3, cnt_2, wi_iconst, wi_iadd, wi_putfield, pOk_2_3, wi_iload_n, wi_ireturn, no0, no1, nz1, nz2, nz3, nz4, nz5, nz7, nz8, Classical.not_not, bz0, bz1, wi_nil, ld_0, ld_s, isIv_I, isLv_L, isRv_R, true_and, and_true, lset_0, lset_1, lset_s, avw_I, avw_L, avw_R, clr_cons, clr_nil, kst_0, kst_1, kstL_0, kstL_1, addk_I, pA_0, pA_s, pD_0, pD_s, wid_nil, wid_cons, rcv_c, putv_I, putv_L, List.length_cons, List.length_nil, List.set_cons_zero, List.set_cons_succ, not_false_eq_true, Nat.reduceMod, Nat.reduceDiv, Nat.reduceEqDiff, Nat.reduceLT, Nat.reduceLeDiff, Nat.reduceAdd, Nat.reduceSub, reduceIte, Nat.lt_irrefl, Nat.zero_ne_one, Nat.one_ne_zero, Nat.zero_add, List.nil_append, List.cons_append, Option.toList_some, Option.toList_none, forall_const, false_implies, true_implies, false_or, or_false, true_or, or_true]
        rw [hr.2.2.1, nI_add]
        exact q _ (rdx_3 hr) (yrx_s2 hy) FRY_s
  · cases w with
    | none => exact absurd rfl h
    | some z => exact q S hr hy FRY.refl
theorem rfg_w {b : Nat → Int32} {n p : Nat} {w : Option Nat} (hp : p ≤ n) (hn : n ≤ 60) (hw : ∀ q, w = some q → q ≤ 60) : (rfg b n w p).2.2 ≤ n ∧ (∀ q, (rfg b n w p).2.1 = some q → q ≤ 60) ∧ (rfg b n w p).1 ≤ 9 := by
  unfold rfg
  cases w with
  | some q => exact ⟨hp, hw, Nat.zero_le _⟩
  | none =>
    cases hd : dgt b n p with
    | none => exact ⟨hp, (fun q h => by cases h; omega), Nat.zero_le _⟩
    | some v => obtain ⟨a1, a2, a3⟩ := dgt_lt hd; exact ⟨a2, (fun q h => by cases h), a1⟩
theorem kl_st {x : Int32} {k : Nat} (h : kl x = some k) : k < 6 ∧ stT 60 k = x ∧ ∀ i, i < k → ¬ stT 60 i = x := by
  unfold kl at h
  have s0 : stT 60 0 = nI 100 := by decide +kernel
  have s1 : stT 60 1 = nI 114 := by decide +kernel
  have s2 : stT 60 2 = nI 115 := by decide +kernel
  have s3 : stT 60 3 = nI 109 := by decide +kernel
  have s4 : stT 60 4 = nI 104 := by decide +kernel
  have s5 : stT 60 5 = nI 102 := by decide +kernel
  have all : ∀ i, i < 6 → i = 0 ∨ i = 1 ∨ i = 2 ∨ i = 3 ∨ i = 4 ∨ i = 5 := by omega
  repeat' split at h
  all_goals first | (cases h; done) | skip
  all_goals (cases h; refine ⟨by decide, ?_, fun i hi => ?_⟩)
  all_goals first
    | (rename_i e; rw [e]; first | exact s0 | exact s1 | exact s2 | exact s3 | exact s4 | exact s5)
    | (rcases all i (by omega) with rfl | rfl | rfl | rfl | rfl | rfl <;> first
      | omega
      | (rename_i e _; rw [e]; decide +kernel)
      | (rename_i e; rw [e]; decide +kernel))
theorem kl_no {x : Int32} (h : kl x = none) : ∀ i, i < 6 → ¬ stT 60 i = x := by
  unfold kl at h
  repeat' split at h
  all_goals first | (cases h; done) | skip
  rename_i h0 h1 h2 h3 h4 h5
  intro i hi e
  rcases (show i = 0 ∨ i = 1 ∨ i = 2 ∨ i = 3 ∨ i = 4 ∨ i = 5 by omega) with rfl | rfl | rfl | rfl | rfl | rfl
  · exact h0 (e.symm.trans (by decide +kernel))
  · exact h1 (e.symm.trans (by decide +kernel))
  · exact h2 (e.symm.trans (by decide +kernel))
  · exact h3 (e.symm.trans (by decide +kernel))
  · exact h4 (e.symm.trans (by decide +kernel))
  · exact h5 (e.symm.trans (by decide +kernel))
theorem l_byLetter {x : Int32} (q : P (some (aI (match kl x with | none => -nI 9 | some k => nI k))) S) : ∀ (m i : Nat), i + m = 6 → (∀ k, k < i → ¬ stT 60 k = x) → wpX d mX1_byLetter 2 [aI x, aI (nI i)] [] S P := by
  intro m
  induction m with
  | zero =>
    intro i hi hk
    have e : i = 6 := by omega
    subst e
    refine s_X1_byLetter_2 ?_
    simp only [B_X1_byLetter_2, wi_iload_n, wi_bipush, wi_icmp_ge, wi_getstatic, wi_iaload, wi_icmp_ne, wi_ireturn, cnt_60, aTy_60, aLn_60, arr_60, no0, no1, nz1, nz2, nz3, nz4, nz5, nz7, nz8, Classical.not_not, bz0, bz1, wi_nil, ld_0, ld_s, isIv_I, isLv_L, isRv_R, true_and, and_true, lset_0, lset_1, lset_s, avw_I, avw_L, avw_R, clr_cons, clr_nil, kst_0, kst_1, kstL_0, kstL_1, addk_I, pA_0, pA_s, pD_0, pD_s, wid_nil, wid_cons, rcv_c, putv_I, putv_L, List.length_cons, List.length_nil, List.set_cons_zero, List.set_cons_succ, not_false_eq_true, Nat.reduceMod, Nat.reduceDiv, Nat.reduceEqDiff, Nat.reduceLT, Nat.reduceLeDiff, Nat.reduceAdd, Nat.reduceSub, reduceIte, Nat.lt_irrefl, Nat.zero_ne_one, Nat.one_ne_zero, Nat.zero_add, List.nil_append, List.cons_append, Option.toList_some, Option.toList_none, forall_const, false_implies, true_implies, false_or, or_false, true_or, or_true]
    refine ⟨fun _ => ?_, fun h => absurd (by decide) h⟩
    refine s_X1_byLetter_25 ?_
    simp only [B_X1_byLetter_25, wi_bipush, wi_ireturn, no0, no1, nz1, nz2, nz3, nz4, nz5, nz7, nz8, Classical.not_not, bz0, bz1, wi_nil, ld_0, ld_s, isIv_I, isLv_L, isRv_R, true_and, and_true, lset_0, lset_1, lset_s, avw_I, avw_L, avw_R, clr_cons, clr_nil, kst_0, kst_1, kstL_0, kstL_1, addk_I, pA_0, pA_s, pD_0, pD_s, wid_nil, wid_cons, rcv_c, putv_I, putv_L, List.length_cons, List.length_nil, List.set_cons_zero, List.set_cons_succ, not_false_eq_true, Nat.reduceMod, Nat.reduceDiv, Nat.reduceEqDiff, Nat.reduceLT, Nat.reduceLeDiff, Nat.reduceAdd, Nat.reduceSub, reduceIte, Nat.lt_irrefl, Nat.zero_ne_one, Nat.one_ne_zero, Nat.zero_add, List.nil_append, List.cons_append, Option.toList_some, Option.toList_none, forall_const, false_implies, true_implies, false_or, or_false, true_or, or_true]
    cases hkl : kl x with
    | none => rw [hkl] at q; exact q
    | some k => obtain ⟨a1, a2, a3⟩ := kl_st hkl; exact absurd a2 (hk k a1)
  | succ m ih =>
    intro i hi hk
    refine s_X1_byLetter_2 ?_
    simp only [B_X1_byLetter_2, wi_iload_n, wi_bipush, wi_icmp_ge, wi_getstatic, wi_iaload, wi_icmp_ne, wi_ireturn, cnt_60, aTy_60, aLn_60, arr_60, no0, no1, nz1, nz2, nz3, nz4, nz5, nz7, nz8, Classical.not_not, bz0, bz1, wi_nil, ld_0, ld_s, isIv_I, isLv_L, isRv_R, true_and, and_true, lset_0, lset_1, lset_s, avw_I, avw_L, avw_R, clr_cons, clr_nil, kst_0, kst_1, kstL_0, kstL_1, addk_I, pA_0, pA_s, pD_0, pD_s, wid_nil, wid_cons, rcv_c, putv_I, putv_L, List.length_cons, List.length_nil, List.set_cons_zero, List.set_cons_succ, not_false_eq_true, Nat.reduceMod, Nat.reduceDiv, Nat.reduceEqDiff, Nat.reduceLT, Nat.reduceLeDiff, Nat.reduceAdd, Nat.reduceSub, reduceIte, Nat.lt_irrefl, Nat.zero_ne_one, Nat.one_ne_zero, Nat.zero_add, List.nil_append, List.cons_append, Option.toList_some, Option.toList_none, forall_const, false_implies, true_implies, false_or, or_false, true_or, or_true]
    rw [i_le (by omega) (by omega), i_cl (by omega)]
    refine ⟨fun h => absurd h (by omega), fun _ => ⟨i_in (by omega) (by decide), fun h => ?_, fun h => ?_⟩⟩
    · refine s_X1_byLetter_19 ?_
      simp only [B_X1_byLetter_19, wi_iinc, wi_goto, no0, no1, nz1, nz2, nz3, nz4, nz5, nz7, nz8, Classical.not_not, bz0, bz1, wi_nil, ld_0, ld_s, isIv_I, isLv_L, isRv_R, true_and, and_true, lset_0, lset_1, lset_s, avw_I, avw_L, avw_R, clr_cons, clr_nil, kst_0, kst_1, kstL_0, kstL_1, addk_I, pA_0, pA_s, pD_0, pD_s, wid_nil, wid_cons, rcv_c, putv_I, putv_L, List.length_cons, List.length_nil, List.set_cons_zero, List.set_cons_succ, not_false_eq_true, Nat.reduceMod, Nat.reduceDiv, Nat.reduceEqDiff, Nat.reduceLT, Nat.reduceLeDiff, Nat.reduceAdd, Nat.reduceSub, reduceIte, Nat.lt_irrefl, Nat.zero_ne_one, Nat.one_ne_zero, Nat.zero_add, List.nil_append, List.cons_append, Option.toList_some, Option.toList_none, forall_const, false_implies, true_implies, false_or, or_false, true_or, or_true]
      rw [nI_add]
      refine ih (i + 1) (by omega) (fun k hk2 => ?_)
      rcases Nat.lt_or_ge k i with a | a
      · exact hk k a
      · rw [show k = i by omega]; exact h
    · cases hkl : kl x with
      | none => exact absurd h (kl_no hkl i (by omega))
      | some k =>
        obtain ⟨a1, a2, a3⟩ := kl_st hkl
        rw [hkl] at q
        have e : i = k := by
          rcases Nat.lt_or_ge i k with a | a
          · exact absurd h (a3 i a)
          · rcases Nat.lt_or_ge k i with c | c
            · exact absurd a2 (hk k c)
            · omega
        rw [e]
        exact q
theorem c_byLetter {x : Int32} (q : P (some (aI (match kl x with | none => -nI 9 | some k => nI k))) S) : wpM (d + 1) mX1_byLetter [aI x] S P := by
  refine x_entry (ls2 := [aI x, aU]) (Nat.le_of_ble_eq_true rfl) pl_1 rfl (Nat.le_of_ble_eq_true rfl) ?_
  refine s_X1_byLetter_0 ?_
  simp only [B_X1_byLetter_0, wi_iconst, wi_istore_n, no0, no1, nz1, nz2, nz3, nz4, nz5, nz7, nz8, Classical.not_not, bz0, bz1, wi_nil, ld_0, ld_s, isIv_I, isLv_L, isRv_R, true_and, and_true, lset_0, lset_1, lset_s, avw_I, avw_L, avw_R, clr_cons, clr_nil, kst_0, kst_1, kstL_0, kstL_1, addk_I, pA_0, pA_s, pD_0, pD_s, wid_nil, wid_cons, rcv_c, putv_I, putv_L, List.length_cons, List.length_nil, List.set_cons_zero, List.set_cons_succ, not_false_eq_true, Nat.reduceMod, Nat.reduceDiv, Nat.reduceEqDiff, Nat.reduceLT, Nat.reduceLeDiff, Nat.reduceAdd, Nat.reduceSub, reduceIte, Nat.lt_irrefl, Nat.zero_ne_one, Nat.one_ne_zero, Nat.zero_add, List.nil_append, List.cons_append, Option.toList_some, Option.toList_none, forall_const, false_implies, true_implies, false_or, or_false, true_or, or_true]
  exact l_byLetter q 6 0 rfl (fun k h => absurd h (Nat.not_lt_zero k))
end
