-- PART 47: which sets fit: fits, sure
def fB (Y : Nat → Nat → Nat) (v s : Nat) : Bool := subB Y s && decide (csum (ycz Y) 5 s = v)
/-- the first that fits among the last m of 32 -/
def dnF (F : Nat → Bool) : Nat → Option Nat
  | 0 => none
  | m + 1 => if F (31 - m) = true then some (31 - m) else dnF F m
/-- the first that fits below i -/
def fsF (F : Nat → Bool) : Nat → Option Nat
  | 0 => none
  | i + 1 => match fsF F i with
    | some b => some b
    | none => if F i = true then some i else none
def isF (F : Nat → Bool) (o : Option Nat) (lo hi : Nat) : Prop := (o = none ∧ ∀ s, lo ≤ s → s < hi → F s = false) ∨ ∃ b, o = some b ∧ lo ≤ b ∧ b < hi ∧ F b = true ∧ ∀ s, lo ≤ s → s < b → F s = false
theorem isF_one {F : Nat → Bool} {o1 o2 : Option Nat} {lo hi : Nat} (h1 : isF F o1 lo hi) (h2 : isF F o2 lo hi) : o1 = o2 := by
  rcases h1 with ⟨rfl, a⟩ | ⟨b, rfl, a1, a2, a3, a4⟩
  · rcases h2 with ⟨rfl, _⟩ | ⟨c, rfl, c1, c2, c3, c4⟩
    · rfl
    · rw [a c c1 c2] at c3; cases c3
  · rcases h2 with ⟨rfl, c⟩ | ⟨c, rfl, c1, c2, c3, c4⟩
    · rw [c b a1 a2] at a3; cases a3
    · rcases Nat.lt_trichotomy b c with q | q | q
      · rw [c4 b a1 q] at a3; cases a3
      · rw [q]
      · rw [a4 c c1 q] at c3; cases c3
theorem dnF_is {F : Nat → Bool} : ∀ m, m ≤ 32 → isF F (dnF F m) (32 - m) 32 := by
  intro m
  induction m with
  | zero => intro _; exact Or.inl ⟨rfl, fun s h1 h2 => by omega⟩
  | succ m ih =>
    intro hm
    rw [dnF]
    split
    · rename_i h
      exact Or.inr ⟨31 - m, rfl, by omega, by omega, h, fun s h1 h2 => by omega⟩
    · rename_i h
      have h : F (31 - m) = false := by simpa using h
      rcases ih (by omega) with ⟨a, b⟩ | ⟨b, a0, a1, a2, a3, a4⟩
      · refine Or.inl ⟨a, fun s h1 h2 => ?_⟩
        by_cases e : s = 31 - m
        · rw [e]; exact h
        · exact b s (by omega) h2
      · refine Or.inr ⟨b, a0, by omega, a2, a3, fun s h1 h2 => ?_⟩
        by_cases e : s = 31 - m
        · rw [e]; exact h
        · exact a4 s (by omega) h2
theorem fsF_is {F : Nat → Bool} : ∀ i, isF F (fsF F i) 0 i := by
  intro i
  induction i with
  | zero => exact Or.inl ⟨rfl, fun s h1 h2 => absurd h2 (Nat.not_lt_zero s)⟩
  | succ i ih =>
    rw [fsF]
    rcases ih with ⟨a, b⟩ | ⟨b, a0, a1, a2, a3, a4⟩
    · rw [a]
      dsimp only
      split
      · rename_i h
        exact Or.inr ⟨i, rfl, Nat.zero_le i, Nat.lt_succ_self i, h, fun s h1 h2 => b s h1 h2⟩
      · rename_i h
        have h : F i = false := by simpa using h
        refine Or.inl ⟨rfl, fun s h1 h2 => ?_⟩
        by_cases e : s = i
        · rw [e]; exact h
        · exact b s h1 (by omega)
    · rw [a0]
      exact Or.inr ⟨b, rfl, a1, by omega, a3, a4⟩
theorem fsF_none {F : Nat → Bool} {i : Nat} : fsF F i = none ↔ fb_ct F i = 0 := by
  rw [fb_ct_zero]
  rcases fsF_is (F := F) i with ⟨a, b⟩ | ⟨b, a0, a1, a2, a3, a4⟩
  · exact ⟨fun _ k hk => b k (Nat.zero_le k) hk, fun _ => a⟩
  · refine ⟨(fun h => by rw [a0] at h; cases h), fun h => ?_⟩
    rw [h b a2] at a3; cases a3
def alF (F : Nat → Bool) (a : Nat) : Nat → Nat
  | 0 => a
  | j + 1 => if F j = true then alF F a j &&& j else alF F a j
def anF (F : Nat → Bool) : Nat → Nat
  | 0 => 0
  | j + 1 => if F j = true then anF F j ||| j else anF F j
theorem al_lt {F : Nat → Bool} {a : Nat} (ha : a < 32) : ∀ j, alF F a j < 32 := by
  intro j
  induction j with
  | zero => exact ha
  | succ j ih =>
    rw [alF]
    split
    · exact and_lt32 ih
    · exact ih
theorem an_lt {F : Nat → Bool} : ∀ j, j ≤ 32 → anF F j < 32 := by
  intro j
  induction j with
  | zero => intro _; exact Nat.zero_lt_succ 31
  | succ j ih =>
    intro hj
    rw [anF]
    split
    · exact Nat.or_lt_two_pow (n := 5) (ih (by omega)) (by omega)
    · exact ih (by omega)
section
variable {d B : Nat} {S T : MS} {Y Y0 : Nat → Nat → Nat} {P : Option AV → MS → Prop}
theorem fB_out (ho : YOk B Y) {v s : Nat} (hs : s < 32) (h : 2 ^ Y 6 0 ≤ s) : fB Y v s = false := by
  unfold fB
  cases hb : subB Y s
  · rfl
  · have := (subB_iff ho hs).mp hb; omega
theorem st_al (ho : YOk B Y) {v a : Nat} : ∀ m, 2 ^ Y 6 0 + m ≤ 32 → alF (fB Y v) a (2 ^ Y 6 0 + m) = alF (fB Y v) a (2 ^ Y 6 0) := by
  intro m
  induction m with
  | zero => intro _; rfl
  | succ m ih =>
    intro h
    rw [← Nat.add_assoc, alF, fB_out ho (by omega) (by omega), if_neg (by decide), ih (by omega)]
theorem st_an (ho : YOk B Y) {v : Nat} : ∀ m, 2 ^ Y 6 0 + m ≤ 32 → anF (fB Y v) (2 ^ Y 6 0 + m) = anF (fB Y v) (2 ^ Y 6 0) := by
  intro m
  induction m with
  | zero => intro _; rfl
  | succ m ih =>
    intro h
    rw [← Nat.add_assoc, anF, fB_out ho (by omega) (by omega), if_neg (by decide), ih (by omega)]
theorem st_ct (ho : YOk B Y) {v : Nat} {p : Nat → Bool} : ∀ m, 2 ^ Y 6 0 + m ≤ 32 → fb_ct (fun s => fB Y v s && p s) (2 ^ Y 6 0 + m) = fb_ct (fun s => fB Y v s && p s) (2 ^ Y 6 0) := by
  intro m
  induction m with
  | zero => intro _; rfl
  | succ m ih =>
    intro h
    rw [← Nat.add_assoc, fb_ct_succ, fB_out ho (by omega) (by omega), Bool.false_and, if_neg (by decide), Nat.add_zero, ih (by omega)]
theorem st_ct1 (ho : YOk B Y) {v : Nat} : ∀ m, 2 ^ Y 6 0 + m ≤ 32 → fb_ct (fB Y v) (2 ^ Y 6 0 + m) = fb_ct (fB Y v) (2 ^ Y 6 0) := by
  intro m
  induction m with
  | zero => intro _; rfl
  | succ m ih =>
    intro h
    rw [← Nat.add_assoc, fb_ct_succ, fB_out ho (by omega) (by omega), if_neg (by decide), Nat.add_zero, ih (by omega)]
theorem st_fs (ho : YOk B Y) {v : Nat} : ∀ m, 2 ^ Y 6 0 + m ≤ 32 → fsF (fB Y v) (2 ^ Y 6 0 + m) = fsF (fB Y v) (2 ^ Y 6 0) := by
  intro m
  induction m with
  | zero => intro _; rfl
  | succ m ih =>
    intro h
    rw [← Nat.add_assoc, fsF, ih (by omega), fB_out ho (by omega) (by omega)]
    cases fsF (fB Y v) (2 ^ Y 6 0) <;> rfl
theorem c_isFit {v s : Nat} (hv : v < 1000) (hs : s < 32) (hy : YrX S 1 Y) (ho : YOk 40 Y) (hw : ∀ s, s < 32 → gA S 26 1 s = nI (csum (ycz Y) 5 s)) (q : P (some (aI (nI (fB Y v s).toNat))) S) : wpM (d + 2) mX8_isFit [aR 7 0, aR 26 1, aI (nI s), aI (nI v)] S P := by
  have hyl := yop_lt (Y := Y) ho.1.1
  have a1 : s &&& (31 - yop Y) < 32 := and_lt32 hs
  have hcs := csum_lt ho s
  have hws := hw s hs
  unfold fB subB at q
  refine x_entry (ls2 := [aR 7 0, aR 26 1, aI (nI s), aI (nI v)]) (Nat.le_of_ble_eq_true rfl) pl_8 rfl (Nat.le_of_ble_eq_true rfl) ?_
  try simp (disch := omega) only [no0, no1, nz1, nz2, nz3, nz4, nz5, nz7, nz8, Classical.not_not, bz0, bz1, wi_nil, ld_0, ld_s, isIv_I, isLv_L, isRv_R, true_and, and_true, lset_0, lset_1, lset_s, avw_I, avw_L, avw_R, clr_cons, clr_nil, kst_0, kst_1, kstL_0, kstL_1, addk_I, pA_0, pA_s, pD_0, pD_s, wid_nil, wid_cons, rcv_c, putv_I, putv_L, List.length_cons, List.length_nil, List.set_cons_zero, List.set_cons_succ, not_false_eq_true, Nat.reduceMod, Nat.reduceDiv, Nat.reduceEqDiff, Nat.reduceLT, Nat.reduceLeDiff, Nat.reduceAdd, Nat.reduceSub, reduceIte, Nat.lt_irrefl, Nat.zero_ne_one, Nat.one_ne_zero, Nat.zero_add, List.nil_append, List.cons_append, Option.toList_some, Option.toList_none, forall_const, false_implies, true_implies, false_or, or_false, true_or, or_true, i_le, i_lt, i_eq, i_eq0, i_lt0, i_0le, i_0lt, i_le0, i_in1, i_cl, nI_add, pk_mul, pk_sub, i_div, i_rem, i_sh1, i_bit, i_or, i_and, i_andn, nt_le, nf_le, nt_lt, nf_lt, nt_eq, nf_eq, not_true_eq_false, and_self, and_false, false_and, eq_self, Bool.toNat_true, Bool.toNat_false, i_bool, i_bool1, Bool.false_eq_true, Bool.true_eq_false, reduceCtorEq, i_neg1, i_neg2, i_neg3, i_neg4, i_neg5, i_neg6, i_neg7, i_neg8, i_neg9, i_nega, i_negb, i_negc, i_max2, i_min2, wi_nil]
  repeat (
    first
    | refine s_X8_isFit_0 ?_
    | refine s_X8_isFit_8 ?_
    | refine s_X8_isFit_25 ?_
    | refine s_X8_isFit_26 ?_
    simp (disch := omega) only [B_X8_isFit_0, wi_iload_n, wi_aload_n, wi_getfield, fldv_7_3, fds_7_3, cnt_7, wi_invokevirtual, cnt_6, B_X8_isFit_8, wi_iconst, wi_ixor, wi_iand, wi_if_ne, wi_iaload, wi_icmp_ne, wi_goto, B_X8_isFit_25, B_X8_isFit_26, wi_ireturn, no0, no1, nz1, nz2, nz3, nz4, nz5, nz7, nz8, Classical.not_not, bz0, bz1, wi_nil, ld_0, ld_s, isIv_I, isLv_L, isRv_R, true_and, and_true, lset_0, lset_1, lset_s, avw_I, avw_L, avw_R, clr_cons, clr_nil, kst_0, kst_1, kstL_0, kstL_1, addk_I, pA_0, pA_s, pD_0, pD_s, wid_nil, wid_cons, rcv_c, putv_I, putv_L, List.length_cons, List.length_nil, List.set_cons_zero, List.set_cons_succ, not_false_eq_true, Nat.reduceMod, Nat.reduceDiv, Nat.reduceEqDiff, Nat.reduceLT, Nat.reduceLeDiff, Nat.reduceAdd, Nat.reduceSub, reduceIte, Nat.lt_irrefl, Nat.zero_ne_one, Nat.one_ne_zero, Nat.zero_add, List.nil_append, List.cons_append, Option.toList_some, Option.toList_none, forall_const, false_implies, true_implies, false_or, or_false, true_or, or_true, i_le, i_lt, i_eq, i_eq0, i_lt0, i_0le, i_0lt, i_le0, i_in1, i_cl, nI_add, pk_mul, pk_sub, i_div, i_rem, i_sh1, i_bit, i_or, i_and, i_andn, nt_le, nf_le, nt_lt, nf_lt, nt_eq, nf_eq, not_true_eq_false, and_self, and_false, false_and, eq_self, Bool.toNat_true, Bool.toNat_false, i_bool, i_bool1, Bool.false_eq_true, Bool.true_eq_false, reduceCtorEq, i_neg1, i_neg2, i_neg3, i_neg4, i_neg5, i_neg6, i_neg7, i_neg8, i_neg9, i_nega, i_negb, i_negc, i_max2, i_min2])
  refine c_open (by decide) hy ho ?_
  by_cases c1 : s &&& (31 - yop Y) = 0
  · by_cases c2 : csum (ycz Y) 5 s = v
    · rw [decide_eq_true c1, decide_eq_true c2] at q
      try simp (disch := omega) only [no0, no1, nz1, nz2, nz3, nz4, nz5, nz7, nz8, Classical.not_not, bz0, bz1, wi_nil, ld_0, ld_s, isIv_I, isLv_L, isRv_R, true_and, and_true, lset_0, lset_1, lset_s, avw_I, avw_L, avw_R, clr_cons, clr_nil, kst_0, kst_1, kstL_0, kstL_1, addk_I, pA_0, pA_s, pD_0, pD_s, wid_nil, wid_cons, rcv_c, putv_I, putv_L, List.length_cons, List.length_nil, List.set_cons_zero, List.set_cons_succ, not_false_eq_true, Nat.reduceMod, Nat.reduceDiv, Nat.reduceEqDiff, Nat.reduceLT, Nat.reduceLeDiff, Nat.reduceAdd, Nat.reduceSub, reduceIte, Nat.lt_irrefl, Nat.zero_ne_one, Nat.one_ne_zero, Nat.zero_add, List.nil_append, List.cons_append, Option.toList_some, Option.toList_none, forall_const, false_implies, true_implies, false_or, or_false, true_or, or_true, i_le, i_lt, i_eq, i_eq0, i_lt0, i_0le, i_0lt, i_le0, i_in1, i_cl, nI_add, pk_mul, pk_sub, i_div, i_rem, i_sh1, i_bit, i_or, i_and, i_andn, nt_le, nf_le, nt_lt, nf_lt, nt_eq, nf_eq, not_true_eq_false, and_self, and_false, false_and, eq_self, Bool.toNat_true, Bool.toNat_false, i_bool, i_bool1, Bool.false_eq_true, Bool.true_eq_false, reduceCtorEq, i_neg1, i_neg2, i_neg3, i_neg4, i_neg5, i_neg6, i_neg7, i_neg8, i_neg9, i_nega, i_negb, i_negc, i_max2, i_min2, hws, wi_nil]
      repeat (
        first
        | refine s_X8_isFit_0 ?_
        | refine s_X8_isFit_8 ?_
        | refine s_X8_isFit_25 ?_
        | refine s_X8_isFit_26 ?_
        simp (disch := omega) only [B_X8_isFit_0, wi_iload_n, wi_aload_n, wi_getfield, fldv_7_3, fds_7_3, cnt_7, wi_invokevirtual, cnt_6, B_X8_isFit_8, wi_iconst, wi_ixor, wi_iand, wi_if_ne, wi_iaload, wi_icmp_ne, wi_goto, cnt_26, aTy_26, aLn_26, arr_26, B_X8_isFit_25, B_X8_isFit_26, wi_ireturn, no0, no1, nz1, nz2, nz3, nz4, nz5, nz7, nz8, Classical.not_not, bz0, bz1, wi_nil, ld_0, ld_s, isIv_I, isLv_L, isRv_R, true_and, and_true, lset_0, lset_1, lset_s, avw_I, avw_L, avw_R, clr_cons, clr_nil, kst_0, kst_1, kstL_0, kstL_1, addk_I, pA_0, pA_s, pD_0, pD_s, wid_nil, wid_cons, rcv_c, putv_I, putv_L, List.length_cons, List.length_nil, List.set_cons_zero, List.set_cons_succ, not_false_eq_true, Nat.reduceMod, Nat.reduceDiv, Nat.reduceEqDiff, Nat.reduceLT, Nat.reduceLeDiff, Nat.reduceAdd, Nat.reduceSub, reduceIte, Nat.lt_irrefl, Nat.zero_ne_one, Nat.one_ne_zero, Nat.zero_add, List.nil_append, List.cons_append, Option.toList_some, Option.toList_none, forall_const, false_implies, true_implies, false_or, or_false, true_or, or_true, i_le, i_lt, i_eq, i_eq0, i_lt0, i_0le, i_0lt, i_le0, i_in1, i_cl, nI_add, pk_mul, pk_sub, i_div, i_rem, i_sh1, i_bit, i_or, i_and, i_andn, nt_le, nf_le, nt_lt, nf_lt, nt_eq, nf_eq, not_true_eq_false, and_self, and_false, false_and, eq_self, Bool.toNat_true, Bool.toNat_false, i_bool, i_bool1, Bool.false_eq_true, Bool.true_eq_false, reduceCtorEq, i_neg1, i_neg2, i_neg3, i_neg4, i_neg5, i_neg6, i_neg7, i_neg8, i_neg9, i_nega, i_negb, i_negc, i_max2, i_min2, hws])
      exact q
    · rw [decide_eq_true c1, decide_eq_false c2] at q
      try simp (disch := omega) only [no0, no1, nz1, nz2, nz3, nz4, nz5, nz7, nz8, Classical.not_not, bz0, bz1, wi_nil, ld_0, ld_s, isIv_I, isLv_L, isRv_R, true_and, and_true, lset_0, lset_1, lset_s, avw_I, avw_L, avw_R, clr_cons, clr_nil, kst_0, kst_1, kstL_0, kstL_1, addk_I, pA_0, pA_s, pD_0, pD_s, wid_nil, wid_cons, rcv_c, putv_I, putv_L, List.length_cons, List.length_nil, List.set_cons_zero, List.set_cons_succ, not_false_eq_true, Nat.reduceMod, Nat.reduceDiv, Nat.reduceEqDiff, Nat.reduceLT, Nat.reduceLeDiff, Nat.reduceAdd, Nat.reduceSub, reduceIte, Nat.lt_irrefl, Nat.zero_ne_one, Nat.one_ne_zero, Nat.zero_add, List.nil_append, List.cons_append, Option.toList_some, Option.toList_none, forall_const, false_implies, true_implies, false_or, or_false, true_or, or_true, i_le, i_lt, i_eq, i_eq0, i_lt0, i_0le, i_0lt, i_le0, i_in1, i_cl, nI_add, pk_mul, pk_sub, i_div, i_rem, i_sh1, i_bit, i_or, i_and, i_andn, nt_le, nf_le, nt_lt, nf_lt, nt_eq, nf_eq, not_true_eq_false, and_self, and_false, false_and, eq_self, Bool.toNat_true, Bool.toNat_false, i_bool, i_bool1, Bool.false_eq_true, Bool.true_eq_false, reduceCtorEq, i_neg1, i_neg2, i_neg3, i_neg4, i_neg5, i_neg6, i_neg7, i_neg8, i_neg9, i_nega, i_negb, i_negc, i_max2, i_min2, hws, wi_nil]
      repeat (
        first
        | refine s_X8_isFit_0 ?_
        | refine s_X8_isFit_8 ?_
        | refine s_X8_isFit_25 ?_
        | refine s_X8_isFit_26 ?_
        simp (disch := omega) only [B_X8_isFit_0, wi_iload_n, wi_aload_n, wi_getfield, fldv_7_3, fds_7_3, cnt_7, wi_invokevirtual, cnt_6, B_X8_isFit_8, wi_iconst, wi_ixor, wi_iand, wi_if_ne, wi_iaload, wi_icmp_ne, wi_goto, cnt_26, aTy_26, aLn_26, arr_26, B_X8_isFit_25, B_X8_isFit_26, wi_ireturn, no0, no1, nz1, nz2, nz3, nz4, nz5, nz7, nz8, Classical.not_not, bz0, bz1, wi_nil, ld_0, ld_s, isIv_I, isLv_L, isRv_R, true_and, and_true, lset_0, lset_1, lset_s, avw_I, avw_L, avw_R, clr_cons, clr_nil, kst_0, kst_1, kstL_0, kstL_1, addk_I, pA_0, pA_s, pD_0, pD_s, wid_nil, wid_cons, rcv_c, putv_I, putv_L, List.length_cons, List.length_nil, List.set_cons_zero, List.set_cons_succ, not_false_eq_true, Nat.reduceMod, Nat.reduceDiv, Nat.reduceEqDiff, Nat.reduceLT, Nat.reduceLeDiff, Nat.reduceAdd, Nat.reduceSub, reduceIte, Nat.lt_irrefl, Nat.zero_ne_one, Nat.one_ne_zero, Nat.zero_add, List.nil_append, List.cons_append, Option.toList_some, Option.toList_none, forall_const, false_implies, true_implies, false_or, or_false, true_or, or_true, i_le, i_lt, i_eq, i_eq0, i_lt0, i_0le, i_0lt, i_le0, i_in1, i_cl, nI_add, pk_mul, pk_sub, i_div, i_rem, i_sh1, i_bit, i_or, i_and, i_andn, nt_le, nf_le, nt_lt, nf_lt, nt_eq, nf_eq, not_true_eq_false, and_self, and_false, false_and, eq_self, Bool.toNat_true, Bool.toNat_false, i_bool, i_bool1, Bool.false_eq_true, Bool.true_eq_false, reduceCtorEq, i_neg1, i_neg2, i_neg3, i_neg4, i_neg5, i_neg6, i_neg7, i_neg8, i_neg9, i_nega, i_negb, i_negc, i_max2, i_min2, hws])
      exact q
  · rw [decide_eq_false c1] at q
    try simp (disch := omega) only [no0, no1, nz1, nz2, nz3, nz4, nz5, nz7, nz8, Classical.not_not, bz0, bz1, wi_nil, ld_0, ld_s, isIv_I, isLv_L, isRv_R, true_and, and_true, lset_0, lset_1, lset_s, avw_I, avw_L, avw_R, clr_cons, clr_nil, kst_0, kst_1, kstL_0, kstL_1, addk_I, pA_0, pA_s, pD_0, pD_s, wid_nil, wid_cons, rcv_c, putv_I, putv_L, List.length_cons, List.length_nil, List.set_cons_zero, List.set_cons_succ, not_false_eq_true, Nat.reduceMod, Nat.reduceDiv, Nat.reduceEqDiff, Nat.reduceLT, Nat.reduceLeDiff, Nat.reduceAdd, Nat.reduceSub, reduceIte, Nat.lt_irrefl, Nat.zero_ne_one, Nat.one_ne_zero, Nat.zero_add, List.nil_append, List.cons_append, Option.toList_some, Option.toList_none, forall_const, false_implies, true_implies, false_or, or_false, true_or, or_true, i_le, i_lt, i_eq, i_eq0, i_lt0, i_0le, i_0lt, i_le0, i_in1, i_cl, nI_add, pk_mul, pk_sub, i_div, i_rem, i_sh1, i_bit, i_or, i_and, i_andn, nt_le, nf_le, nt_lt, nf_lt, nt_eq, nf_eq, not_true_eq_false, and_self, and_false, false_and, eq_self, Bool.toNat_true, Bool.toNat_false, i_bool, i_bool1, Bool.false_eq_true, Bool.true_eq_false, reduceCtorEq, i_neg1, i_neg2, i_neg3, i_neg4, i_neg5, i_neg6, i_neg7, i_neg8, i_neg9, i_nega, i_negb, i_negc, i_max2, i_min2, hws, wi_nil]
    repeat (
      first
      | refine s_X8_isFit_0 ?_
      | refine s_X8_isFit_8 ?_
      | refine s_X8_isFit_25 ?_
      | refine s_X8_isFit_26 ?_
      simp (disch := omega) only [B_X8_isFit_0, wi_iload_n, wi_aload_n, wi_getfield, fldv_7_3, fds_7_3, cnt_7, wi_invokevirtual, cnt_6, B_X8_isFit_8, wi_iconst, wi_ixor, wi_iand, wi_if_ne, wi_iaload, wi_icmp_ne, wi_goto, cnt_26, aTy_26, aLn_26, arr_26, B_X8_isFit_25, B_X8_isFit_26, wi_ireturn, no0, no1, nz1, nz2, nz3, nz4, nz5, nz7, nz8, Classical.not_not, bz0, bz1, wi_nil, ld_0, ld_s, isIv_I, isLv_L, isRv_R, true_and, and_true, lset_0, lset_1, lset_s, avw_I, avw_L, avw_R, clr_cons, clr_nil, kst_0, kst_1, kstL_0, kstL_1, addk_I, pA_0, pA_s, pD_0, pD_s, wid_nil, wid_cons, rcv_c, putv_I, putv_L, List.length_cons, List.length_nil, List.set_cons_zero, List.set_cons_succ, not_false_eq_true, Nat.reduceMod, Nat.reduceDiv, Nat.reduceEqDiff, Nat.reduceLT, Nat.reduceLeDiff, Nat.reduceAdd, Nat.reduceSub, reduceIte, Nat.lt_irrefl, Nat.zero_ne_one, Nat.one_ne_zero, Nat.zero_add, List.nil_append, List.cons_append, Option.toList_some, Option.toList_none, forall_const, false_implies, true_implies, false_or, or_false, true_or, or_true, i_le, i_lt, i_eq, i_eq0, i_lt0, i_0le, i_0lt, i_le0, i_in1, i_cl, nI_add, pk_mul, pk_sub, i_div, i_rem, i_sh1, i_bit, i_or, i_and, i_andn, nt_le, nf_le, nt_lt, nf_lt, nt_eq, nf_eq, not_true_eq_false, and_self, and_false, false_and, eq_self, Bool.toNat_true, Bool.toNat_false, i_bool, i_bool1, Bool.false_eq_true, Bool.true_eq_false, reduceCtorEq, i_neg1, i_neg2, i_neg3, i_neg4, i_neg5, i_neg6, i_neg7, i_neg8, i_neg9, i_nega, i_negb, i_negc, i_max2, i_min2, hws])
    exact q
theorem l_fitting {v mk a : Nat} (hv : v < 1000) (hmk : mk < 32) (ha : a < 32) (hy : YrX S 1 Y) (ho : YOk 40 Y) (hw : ∀ s, s < 32 → gA S 26 1 s = nI (csum (ycz Y) 5 s)) (q : P (some (aI (nI (fb_ct (fun s => decide (s &&& mk = a) && fB Y v s) 32)))) S) : ∀ (m s : Nat), s + m = 32 → wpX (d + 2) mX8_fitting 15 [aR 7 0, aI (nI v), aI (nI mk), aI (nI a), aR 26 1, aI (nI (fb_ct (fun s => decide (s &&& mk = a) && fB Y v s) s)), aI (nI s)] [] S P := by
  intro m
  induction m with
  | zero =>
    intro s hs
    have e : s = 32 := by omega
    subst e
    refine s_X8_fitting_15 ?_
    simp (disch := omega) only [B_X8_fitting_15, wi_iload, wi_bipush, wi_icmp_ge, wi_iload_n, wi_iand, wi_icmp_ne, wi_aload_n, wi_aload, wi_invokevirtual, cnt_7, no0, no1, nz1, nz2, nz3, nz4, nz5, nz7, nz8, Classical.not_not, bz0, bz1, wi_nil, ld_0, ld_s, isIv_I, isLv_L, isRv_R, true_and, and_true, lset_0, lset_1, lset_s, avw_I, avw_L, avw_R, clr_cons, clr_nil, kst_0, kst_1, kstL_0, kstL_1, addk_I, pA_0, pA_s, pD_0, pD_s, wid_nil, wid_cons, rcv_c, putv_I, putv_L, List.length_cons, List.length_nil, List.set_cons_zero, List.set_cons_succ, not_false_eq_true, Nat.reduceMod, Nat.reduceDiv, Nat.reduceEqDiff, Nat.reduceLT, Nat.reduceLeDiff, Nat.reduceAdd, Nat.reduceSub, reduceIte, Nat.lt_irrefl, Nat.zero_ne_one, Nat.one_ne_zero, Nat.zero_add, List.nil_append, List.cons_append, Option.toList_some, Option.toList_none, forall_const, false_implies, true_implies, false_or, or_false, true_or, or_true, i_le, i_lt, i_eq, i_eq0, i_lt0, i_0le, i_0lt, i_le0, i_in1, i_cl, nI_add, pk_mul, pk_sub, i_div, i_rem, i_sh1, i_bit, i_or, i_and, i_andn, nt_le, nf_le, nt_lt, nf_lt, nt_eq, nf_eq, not_true_eq_false, and_self, and_false, false_and, eq_self, Bool.toNat_true, Bool.toNat_false, i_bool, i_bool1, Bool.false_eq_true, Bool.true_eq_false, reduceCtorEq, i_neg1, i_neg2, i_neg3, i_neg4, i_neg5, i_neg6, i_neg7, i_neg8, i_neg9, i_nega, i_negb, i_negc, i_max2, i_min2]
    try simp (disch := omega) only [no0, no1, nz1, nz2, nz3, nz4, nz5, nz7, nz8, Classical.not_not, bz0, bz1, wi_nil, ld_0, ld_s, isIv_I, isLv_L, isRv_R, true_and, and_true, lset_0, lset_1, lset_s, avw_I, avw_L, avw_R, clr_cons, clr_nil, kst_0, kst_1, kstL_0, kstL_1, addk_I, pA_0, pA_s, pD_0, pD_s, wid_nil, wid_cons, rcv_c, putv_I, putv_L, List.length_cons, List.length_nil, List.set_cons_zero, List.set_cons_succ, not_false_eq_true, Nat.reduceMod, Nat.reduceDiv, Nat.reduceEqDiff, Nat.reduceLT, Nat.reduceLeDiff, Nat.reduceAdd, Nat.reduceSub, reduceIte, Nat.lt_irrefl, Nat.zero_ne_one, Nat.one_ne_zero, Nat.zero_add, List.nil_append, List.cons_append, Option.toList_some, Option.toList_none, forall_const, false_implies, true_implies, false_or, or_false, true_or, or_true, i_le, i_lt, i_eq, i_eq0, i_lt0, i_0le, i_0lt, i_le0, i_in1, i_cl, nI_add, pk_mul, pk_sub, i_div, i_rem, i_sh1, i_bit, i_or, i_and, i_andn, nt_le, nf_le, nt_lt, nf_lt, nt_eq, nf_eq, not_true_eq_false, and_self, and_false, false_and, eq_self, Bool.toNat_true, Bool.toNat_false, i_bool, i_bool1, Bool.false_eq_true, Bool.true_eq_false, reduceCtorEq, i_neg1, i_neg2, i_neg3, i_neg4, i_neg5, i_neg6, i_neg7, i_neg8, i_neg9, i_nega, i_negb, i_negc, i_max2, i_min2, wi_nil]
    repeat (
      first
      | refine s_X8_fitting_0 ?_
      | refine s_X8_fitting_7 ?_
      | refine s_X8_fitting_39 ?_
      | refine s_X8_fitting_45 ?_
      | refine s_X8_fitting_51 ?_
      simp (disch := omega) only [B_X8_fitting_0, wi_aload_n, wi_getfield, fldv_7_3, fds_7_3, cnt_7, wi_invokevirtual, cnt_6, B_X8_fitting_7, wi_astore, wi_iconst, wi_istore, B_X8_fitting_15, wi_iload, wi_bipush, wi_icmp_ge, wi_iload_n, wi_iand, wi_icmp_ne, wi_aload, B_X8_fitting_39, wi_if_eq, wi_iinc, B_X8_fitting_45, wi_goto, B_X8_fitting_51, wi_ireturn, no0, no1, nz1, nz2, nz3, nz4, nz5, nz7, nz8, Classical.not_not, bz0, bz1, wi_nil, ld_0, ld_s, isIv_I, isLv_L, isRv_R, true_and, and_true, lset_0, lset_1, lset_s, avw_I, avw_L, avw_R, clr_cons, clr_nil, kst_0, kst_1, kstL_0, kstL_1, addk_I, pA_0, pA_s, pD_0, pD_s, wid_nil, wid_cons, rcv_c, putv_I, putv_L, List.length_cons, List.length_nil, List.set_cons_zero, List.set_cons_succ, not_false_eq_true, Nat.reduceMod, Nat.reduceDiv, Nat.reduceEqDiff, Nat.reduceLT, Nat.reduceLeDiff, Nat.reduceAdd, Nat.reduceSub, reduceIte, Nat.lt_irrefl, Nat.zero_ne_one, Nat.one_ne_zero, Nat.zero_add, List.nil_append, List.cons_append, Option.toList_some, Option.toList_none, forall_const, false_implies, true_implies, false_or, or_false, true_or, or_true, i_le, i_lt, i_eq, i_eq0, i_lt0, i_0le, i_0lt, i_le0, i_in1, i_cl, nI_add, pk_mul, pk_sub, i_div, i_rem, i_sh1, i_bit, i_or, i_and, i_andn, nt_le, nf_le, nt_lt, nf_lt, nt_eq, nf_eq, not_true_eq_false, and_self, and_false, false_and, eq_self, Bool.toNat_true, Bool.toNat_false, i_bool, i_bool1, Bool.false_eq_true, Bool.true_eq_false, reduceCtorEq, i_neg1, i_neg2, i_neg3, i_neg4, i_neg5, i_neg6, i_neg7, i_neg8, i_neg9, i_nega, i_negb, i_negc, i_max2, i_min2])
    exact q
  | succ m ih =>
    intro s hs
    have a1 : s &&& mk < 32 := and_lt32 (by omega)
    have hle := fb_ct_le (fun s => decide (s &&& mk = a) && fB Y v s) s
    have hnx := ih (s + 1) (by omega)
    rw [fb_ct_succ] at hnx
    by_cases c1 : s &&& mk = a
    · refine s_X8_fitting_15 ?_
      simp (disch := omega) only [B_X8_fitting_15, wi_iload, wi_bipush, wi_icmp_ge, wi_iload_n, wi_iand, wi_icmp_ne, wi_aload_n, wi_aload, wi_invokevirtual, cnt_7, no0, no1, nz1, nz2, nz3, nz4, nz5, nz7, nz8, Classical.not_not, bz0, bz1, wi_nil, ld_0, ld_s, isIv_I, isLv_L, isRv_R, true_and, and_true, lset_0, lset_1, lset_s, avw_I, avw_L, avw_R, clr_cons, clr_nil, kst_0, kst_1, kstL_0, kstL_1, addk_I, pA_0, pA_s, pD_0, pD_s, wid_nil, wid_cons, rcv_c, putv_I, putv_L, List.length_cons, List.length_nil, List.set_cons_zero, List.set_cons_succ, not_false_eq_true, Nat.reduceMod, Nat.reduceDiv, Nat.reduceEqDiff, Nat.reduceLT, Nat.reduceLeDiff, Nat.reduceAdd, Nat.reduceSub, reduceIte, Nat.lt_irrefl, Nat.zero_ne_one, Nat.one_ne_zero, Nat.zero_add, List.nil_append, List.cons_append, Option.toList_some, Option.toList_none, forall_const, false_implies, true_implies, false_or, or_false, true_or, or_true, i_le, i_lt, i_eq, i_eq0, i_lt0, i_0le, i_0lt, i_le0, i_in1, i_cl, nI_add, pk_mul, pk_sub, i_div, i_rem, i_sh1, i_bit, i_or, i_and, i_andn, nt_le, nf_le, nt_lt, nf_lt, nt_eq, nf_eq, not_true_eq_false, and_self, and_false, false_and, eq_self, Bool.toNat_true, Bool.toNat_false, i_bool, i_bool1, Bool.false_eq_true, Bool.true_eq_false, reduceCtorEq, i_neg1, i_neg2, i_neg3, i_neg4, i_neg5, i_neg6, i_neg7, i_neg8, i_neg9, i_nega, i_negb, i_negc, i_max2, i_min2]
      refine c_isFit hv (by omega) hy ho hw ?_
      cases hf : fB Y v s
      · rw [decide_eq_true c1, hf, if_neg (by decide), Nat.add_zero] at hnx
        try simp (disch := omega) only [no0, no1, nz1, nz2, nz3, nz4, nz5, nz7, nz8, Classical.not_not, bz0, bz1, wi_nil, ld_0, ld_s, isIv_I, isLv_L, isRv_R, true_and, and_true, lset_0, lset_1, lset_s, avw_I, avw_L, avw_R, clr_cons, clr_nil, kst_0, kst_1, kstL_0, kstL_1, addk_I, pA_0, pA_s, pD_0, pD_s, wid_nil, wid_cons, rcv_c, putv_I, putv_L, List.length_cons, List.length_nil, List.set_cons_zero, List.set_cons_succ, not_false_eq_true, Nat.reduceMod, Nat.reduceDiv, Nat.reduceEqDiff, Nat.reduceLT, Nat.reduceLeDiff, Nat.reduceAdd, Nat.reduceSub, reduceIte, Nat.lt_irrefl, Nat.zero_ne_one, Nat.one_ne_zero, Nat.zero_add, List.nil_append, List.cons_append, Option.toList_some, Option.toList_none, forall_const, false_implies, true_implies, false_or, or_false, true_or, or_true, i_le, i_lt, i_eq, i_eq0, i_lt0, i_0le, i_0lt, i_le0, i_in1, i_cl, nI_add, pk_mul, pk_sub, i_div, i_rem, i_sh1, i_bit, i_or, i_and, i_andn, nt_le, nf_le, nt_lt, nf_lt, nt_eq, nf_eq, not_true_eq_false, and_self, and_false, false_and, eq_self, Bool.toNat_true, Bool.toNat_false, i_bool, i_bool1, Bool.false_eq_true, Bool.true_eq_false, reduceCtorEq, i_neg1, i_neg2, i_neg3, i_neg4, i_neg5, i_neg6, i_neg7, i_neg8, i_neg9, i_nega, i_negb, i_negc, i_max2, i_min2, wi_nil]
        repeat (
          first
          | refine s_X8_fitting_0 ?_
          | refine s_X8_fitting_7 ?_
          | refine s_X8_fitting_39 ?_
          | refine s_X8_fitting_45 ?_
          | refine s_X8_fitting_51 ?_
          simp (disch := omega) only [B_X8_fitting_0, wi_aload_n, wi_getfield, fldv_7_3, fds_7_3, cnt_7, wi_invokevirtual, cnt_6, B_X8_fitting_7, wi_astore, wi_iconst, wi_istore, B_X8_fitting_15, wi_iload, wi_bipush, wi_icmp_ge, wi_iload_n, wi_iand, wi_icmp_ne, wi_aload, B_X8_fitting_39, wi_if_eq, wi_iinc, B_X8_fitting_45, wi_goto, B_X8_fitting_51, wi_ireturn, no0, no1, nz1, nz2, nz3, nz4, nz5, nz7, nz8, Classical.not_not, bz0, bz1, wi_nil, ld_0, ld_s, isIv_I, isLv_L, isRv_R, true_and, and_true, lset_0, lset_1, lset_s, avw_I, avw_L, avw_R, clr_cons, clr_nil, kst_0, kst_1, kstL_0, kstL_1, addk_I, pA_0, pA_s, pD_0, pD_s, wid_nil, wid_cons, rcv_c, putv_I, putv_L, List.length_cons, List.length_nil, List.set_cons_zero, List.set_cons_succ, not_false_eq_true, Nat.reduceMod, Nat.reduceDiv, Nat.reduceEqDiff, Nat.reduceLT, Nat.reduceLeDiff, Nat.reduceAdd, Nat.reduceSub, reduceIte, Nat.lt_irrefl, Nat.zero_ne_one, Nat.one_ne_zero, Nat.zero_add, List.nil_append, List.cons_append, Option.toList_some, Option.toList_none, forall_const, false_implies, true_implies, false_or, or_false, true_or, or_true, i_le, i_lt, i_eq, i_eq0, i_lt0, i_0le, i_0lt, i_le0, i_in1, i_cl, nI_add, pk_mul, pk_sub, i_div, i_rem, i_sh1, i_bit, i_or, i_and, i_andn, nt_le, nf_le, nt_lt, nf_lt, nt_eq, nf_eq, not_true_eq_false, and_self, and_false, false_and, eq_self, Bool.toNat_true, Bool.toNat_false, i_bool, i_bool1, Bool.false_eq_true, Bool.true_eq_false, reduceCtorEq, i_neg1, i_neg2, i_neg3, i_neg4, i_neg5, i_neg6, i_neg7, i_neg8, i_neg9, i_nega, i_negb, i_negc, i_max2, i_min2])
        exact hnx
      · rw [decide_eq_true c1, hf, if_pos (by decide)] at hnx
        try simp (disch := omega) only [no0, no1, nz1, nz2, nz3, nz4, nz5, nz7, nz8, Classical.not_not, bz0, bz1, wi_nil, ld_0, ld_s, isIv_I, isLv_L, isRv_R, true_and, and_true, lset_0, lset_1, lset_s, avw_I, avw_L, avw_R, clr_cons, clr_nil, kst_0, kst_1, kstL_0, kstL_1, addk_I, pA_0, pA_s, pD_0, pD_s, wid_nil, wid_cons, rcv_c, putv_I, putv_L, List.length_cons, List.length_nil, List.set_cons_zero, List.set_cons_succ, not_false_eq_true, Nat.reduceMod, Nat.reduceDiv, Nat.reduceEqDiff, Nat.reduceLT, Nat.reduceLeDiff, Nat.reduceAdd, Nat.reduceSub, reduceIte, Nat.lt_irrefl, Nat.zero_ne_one, Nat.one_ne_zero, Nat.zero_add, List.nil_append, List.cons_append, Option.toList_some, Option.toList_none, forall_const, false_implies, true_implies, false_or, or_false, true_or, or_true, i_le, i_lt, i_eq, i_eq0, i_lt0, i_0le, i_0lt, i_le0, i_in1, i_cl, nI_add, pk_mul, pk_sub, i_div, i_rem, i_sh1, i_bit, i_or, i_and, i_andn, nt_le, nf_le, nt_lt, nf_lt, nt_eq, nf_eq, not_true_eq_false, and_self, and_false, false_and, eq_self, Bool.toNat_true, Bool.toNat_false, i_bool, i_bool1, Bool.false_eq_true, Bool.true_eq_false, reduceCtorEq, i_neg1, i_neg2, i_neg3, i_neg4, i_neg5, i_neg6, i_neg7, i_neg8, i_neg9, i_nega, i_negb, i_negc, i_max2, i_min2, wi_nil]
        repeat (
          first
          | refine s_X8_fitting_0 ?_
          | refine s_X8_fitting_7 ?_
          | refine s_X8_fitting_39 ?_
          | refine s_X8_fitting_45 ?_
          | refine s_X8_fitting_51 ?_
          simp (disch := omega) only [B_X8_fitting_0, wi_aload_n, wi_getfield, fldv_7_3, fds_7_3, cnt_7, wi_invokevirtual, cnt_6, B_X8_fitting_7, wi_astore, wi_iconst, wi_istore, B_X8_fitting_15, wi_iload, wi_bipush, wi_icmp_ge, wi_iload_n, wi_iand, wi_icmp_ne, wi_aload, B_X8_fitting_39, wi_if_eq, wi_iinc, B_X8_fitting_45, wi_goto, B_X8_fitting_51, wi_ireturn, no0, no1, nz1, nz2, nz3, nz4, nz5, nz7, nz8, Classical.not_not, bz0, bz1, wi_nil, ld_0, ld_s, isIv_I, isLv_L, isRv_R, true_and, and_true, lset_0, lset_1, lset_s, avw_I, avw_L, avw_R, clr_cons, clr_nil, kst_0, kst_1, kstL_0, kstL_1, addk_I, pA_0, pA_s, pD_0, pD_s, wid_nil, wid_cons, rcv_c, putv_I, putv_L, List.length_cons, List.length_nil, List.set_cons_zero, List.set_cons_succ, not_false_eq_true, Nat.reduceMod, Nat.reduceDiv, Nat.reduceEqDiff, Nat.reduceLT, Nat.reduceLeDiff, Nat.reduceAdd, Nat.reduceSub, reduceIte, Nat.lt_irrefl, Nat.zero_ne_one, Nat.one_ne_zero, Nat.zero_add, List.nil_append, List.cons_append, Option.toList_some, Option.toList_none, forall_const, false_implies, true_implies, false_or, or_false, true_or, or_true, i_le, i_lt, i_eq, i_eq0, i_lt0, i_0le, i_0lt, i_le0, i_in1, i_cl, nI_add, pk_mul, pk_sub, i_div, i_rem, i_sh1, i_bit, i_or, i_and, i_andn, nt_le, nf_le, nt_lt, nf_lt, nt_eq, nf_eq, not_true_eq_false, and_self, and_false, false_and, eq_self, Bool.toNat_true, Bool.toNat_false, i_bool, i_bool1, Bool.false_eq_true, Bool.true_eq_false, reduceCtorEq, i_neg1, i_neg2, i_neg3, i_neg4, i_neg5, i_neg6, i_neg7, i_neg8, i_neg9, i_nega, i_negb, i_negc, i_max2, i_min2])
        exact hnx
    · rw [decide_eq_false c1, Bool.false_and, if_neg (by decide), Nat.add_zero] at hnx
      refine s_X8_fitting_15 ?_
      simp (disch := omega) only [B_X8_fitting_15, wi_iload, wi_bipush, wi_icmp_ge, wi_iload_n, wi_iand, wi_icmp_ne, wi_aload_n, wi_aload, wi_invokevirtual, cnt_7, no0, no1, nz1, nz2, nz3, nz4, nz5, nz7, nz8, Classical.not_not, bz0, bz1, wi_nil, ld_0, ld_s, isIv_I, isLv_L, isRv_R, true_and, and_true, lset_0, lset_1, lset_s, avw_I, avw_L, avw_R, clr_cons, clr_nil, kst_0, kst_1, kstL_0, kstL_1, addk_I, pA_0, pA_s, pD_0, pD_s, wid_nil, wid_cons, rcv_c, putv_I, putv_L, List.length_cons, List.length_nil, List.set_cons_zero, List.set_cons_succ, not_false_eq_true, Nat.reduceMod, Nat.reduceDiv, Nat.reduceEqDiff, Nat.reduceLT, Nat.reduceLeDiff, Nat.reduceAdd, Nat.reduceSub, reduceIte, Nat.lt_irrefl, Nat.zero_ne_one, Nat.one_ne_zero, Nat.zero_add, List.nil_append, List.cons_append, Option.toList_some, Option.toList_none, forall_const, false_implies, true_implies, false_or, or_false, true_or, or_true, i_le, i_lt, i_eq, i_eq0, i_lt0, i_0le, i_0lt, i_le0, i_in1, i_cl, nI_add, pk_mul, pk_sub, i_div, i_rem, i_sh1, i_bit, i_or, i_and, i_andn, nt_le, nf_le, nt_lt, nf_lt, nt_eq, nf_eq, not_true_eq_false, and_self, and_false, false_and, eq_self, Bool.toNat_true, Bool.toNat_false, i_bool, i_bool1, Bool.false_eq_true, Bool.true_eq_false, reduceCtorEq, i_neg1, i_neg2, i_neg3, i_neg4, i_neg5, i_neg6, i_neg7, i_neg8, i_neg9, i_nega, i_negb, i_negc, i_max2, i_min2]
      try simp (disch := omega) only [no0, no1, nz1, nz2, nz3, nz4, nz5, nz7, nz8, Classical.not_not, bz0, bz1, wi_nil, ld_0, ld_s, isIv_I, isLv_L, isRv_R, true_and, and_true, lset_0, lset_1, lset_s, avw_I, avw_L, avw_R, clr_cons, clr_nil, kst_0, kst_1, kstL_0, kstL_1, addk_I, pA_0, pA_s, pD_0, pD_s, wid_nil, wid_cons, rcv_c, putv_I, putv_L, List.length_cons, List.length_nil, List.set_cons_zero, List.set_cons_succ, not_false_eq_true, Nat.reduceMod, Nat.reduceDiv, Nat.reduceEqDiff, Nat.reduceLT, Nat.reduceLeDiff, Nat.reduceAdd, Nat.reduceSub, reduceIte, Nat.lt_irrefl, Nat.zero_ne_one, Nat.one_ne_zero, Nat.zero_add, List.nil_append, List.cons_append, Option.toList_some, Option.toList_none, forall_const, false_implies, true_implies, false_or, or_false, true_or, or_true, i_le, i_lt, i_eq, i_eq0, i_lt0, i_0le, i_0lt, i_le0, i_in1, i_cl, nI_add, pk_mul, pk_sub, i_div, i_rem, i_sh1, i_bit, i_or, i_and, i_andn, nt_le, nf_le, nt_lt, nf_lt, nt_eq, nf_eq, not_true_eq_false, and_self, and_false, false_and, eq_self, Bool.toNat_true, Bool.toNat_false, i_bool, i_bool1, Bool.false_eq_true, Bool.true_eq_false, reduceCtorEq, i_neg1, i_neg2, i_neg3, i_neg4, i_neg5, i_neg6, i_neg7, i_neg8, i_neg9, i_nega, i_negb, i_negc, i_max2, i_min2, wi_nil]
      repeat (
        first
        | refine s_X8_fitting_0 ?_
        | refine s_X8_fitting_7 ?_
        | refine s_X8_fitting_39 ?_
        | refine s_X8_fitting_45 ?_
        | refine s_X8_fitting_51 ?_
        simp (disch := omega) only [B_X8_fitting_0, wi_aload_n, wi_getfield, fldv_7_3, fds_7_3, cnt_7, wi_invokevirtual, cnt_6, B_X8_fitting_7, wi_astore, wi_iconst, wi_istore, B_X8_fitting_15, wi_iload, wi_bipush, wi_icmp_ge, wi_iload_n, wi_iand, wi_icmp_ne, wi_aload, B_X8_fitting_39, wi_if_eq, wi_iinc, B_X8_fitting_45, wi_goto, B_X8_fitting_51, wi_ireturn, no0, no1, nz1, nz2, nz3, nz4, nz5, nz7, nz8, Classical.not_not, bz0, bz1, wi_nil, ld_0, ld_s, isIv_I, isLv_L, isRv_R, true_and, and_true, lset_0, lset_1, lset_s, avw_I, avw_L, avw_R, clr_cons, clr_nil, kst_0, kst_1, kstL_0, kstL_1, addk_I, pA_0, pA_s, pD_0, pD_s, wid_nil, wid_cons, rcv_c, putv_I, putv_L, List.length_cons, List.length_nil, List.set_cons_zero, List.set_cons_succ, not_false_eq_true, Nat.reduceMod, Nat.reduceDiv, Nat.reduceEqDiff, Nat.reduceLT, Nat.reduceLeDiff, Nat.reduceAdd, Nat.reduceSub, reduceIte, Nat.lt_irrefl, Nat.zero_ne_one, Nat.one_ne_zero, Nat.zero_add, List.nil_append, List.cons_append, Option.toList_some, Option.toList_none, forall_const, false_implies, true_implies, false_or, or_false, true_or, or_true, i_le, i_lt, i_eq, i_eq0, i_lt0, i_0le, i_0lt, i_le0, i_in1, i_cl, nI_add, pk_mul, pk_sub, i_div, i_rem, i_sh1, i_bit, i_or, i_and, i_andn, nt_le, nf_le, nt_lt, nf_lt, nt_eq, nf_eq, not_true_eq_false, and_self, and_false, false_and, eq_self, Bool.toNat_true, Bool.toNat_false, i_bool, i_bool1, Bool.false_eq_true, Bool.true_eq_false, reduceCtorEq, i_neg1, i_neg2, i_neg3, i_neg4, i_neg5, i_neg6, i_neg7, i_neg8, i_neg9, i_nega, i_negb, i_negc, i_max2, i_min2])
      exact hnx
theorem c_fitting {v mk a : Nat} (hv : v < 1000) (hmk : mk < 32) (ha : a < 32) (hy : YrX S 1 Y) (ho : YOk 40 Y) (q : ∀ g, (∀ s, s < 32 → g s = nI (csum (ycz Y) 5 s)) → P (some (aI (nI (fb_ct (fun s => decide (s &&& mk = a) && fB Y v s) 32)))) (sA S 26 1 g)) : wpM (d + 3) mX8_fitting [aR 7 0, aI (nI v), aI (nI mk), aI (nI a)] S P := by
  refine x_entry (ls2 := [aR 7 0, aI (nI v), aI (nI mk), aI (nI a), aU, aU, aU]) (Nat.le_of_ble_eq_true rfl) pl_8 rfl (Nat.le_of_ble_eq_true rfl) ?_
  try simp (disch := omega) only [no0, no1, nz1, nz2, nz3, nz4, nz5, nz7, nz8, Classical.not_not, bz0, bz1, wi_nil, ld_0, ld_s, isIv_I, isLv_L, isRv_R, true_and, and_true, lset_0, lset_1, lset_s, avw_I, avw_L, avw_R, clr_cons, clr_nil, kst_0, kst_1, kstL_0, kstL_1, addk_I, pA_0, pA_s, pD_0, pD_s, wid_nil, wid_cons, rcv_c, putv_I, putv_L, List.length_cons, List.length_nil, List.set_cons_zero, List.set_cons_succ, not_false_eq_true, Nat.reduceMod, Nat.reduceDiv, Nat.reduceEqDiff, Nat.reduceLT, Nat.reduceLeDiff, Nat.reduceAdd, Nat.reduceSub, reduceIte, Nat.lt_irrefl, Nat.zero_ne_one, Nat.one_ne_zero, Nat.zero_add, List.nil_append, List.cons_append, Option.toList_some, Option.toList_none, forall_const, false_implies, true_implies, false_or, or_false, true_or, or_true, i_le, i_lt, i_eq, i_eq0, i_lt0, i_0le, i_0lt, i_le0, i_in1, i_cl, nI_add, pk_mul, pk_sub, i_div, i_rem, i_sh1, i_bit, i_or, i_and, i_andn, nt_le, nf_le, nt_lt, nf_lt, nt_eq, nf_eq, not_true_eq_false, and_self, and_false, false_and, eq_self, Bool.toNat_true, Bool.toNat_false, i_bool, i_bool1, Bool.false_eq_true, Bool.true_eq_false, reduceCtorEq, i_neg1, i_neg2, i_neg3, i_neg4, i_neg5, i_neg6, i_neg7, i_neg8, i_neg9, i_nega, i_negb, i_negc, i_max2, i_min2, wi_nil]
  repeat (
    first
    | refine s_X8_fitting_0 ?_
    | refine s_X8_fitting_7 ?_
    | refine s_X8_fitting_39 ?_
    | refine s_X8_fitting_45 ?_
    | refine s_X8_fitting_51 ?_
    simp (disch := omega) only [B_X8_fitting_0, wi_aload_n, wi_getfield, fldv_7_3, fds_7_3, cnt_7, wi_invokevirtual, cnt_6, B_X8_fitting_7, wi_astore, wi_iconst, wi_istore, B_X8_fitting_15, wi_iload, wi_bipush, wi_icmp_ge, wi_iload_n, wi_iand, wi_icmp_ne, wi_aload, B_X8_fitting_39, wi_if_eq, wi_iinc, B_X8_fitting_45, wi_goto, B_X8_fitting_51, wi_ireturn, no0, no1, nz1, nz2, nz3, nz4, nz5, nz7, nz8, Classical.not_not, bz0, bz1, wi_nil, ld_0, ld_s, isIv_I, isLv_L, isRv_R, true_and, and_true, lset_0, lset_1, lset_s, avw_I, avw_L, avw_R, clr_cons, clr_nil, kst_0, kst_1, kstL_0, kstL_1, addk_I, pA_0, pA_s, pD_0, pD_s, wid_nil, wid_cons, rcv_c, putv_I, putv_L, List.length_cons, List.length_nil, List.set_cons_zero, List.set_cons_succ, not_false_eq_true, Nat.reduceMod, Nat.reduceDiv, Nat.reduceEqDiff, Nat.reduceLT, Nat.reduceLeDiff, Nat.reduceAdd, Nat.reduceSub, reduceIte, Nat.lt_irrefl, Nat.zero_ne_one, Nat.one_ne_zero, Nat.zero_add, List.nil_append, List.cons_append, Option.toList_some, Option.toList_none, forall_const, false_implies, true_implies, false_or, or_false, true_or, or_true, i_le, i_lt, i_eq, i_eq0, i_lt0, i_0le, i_0lt, i_le0, i_in1, i_cl, nI_add, pk_mul, pk_sub, i_div, i_rem, i_sh1, i_bit, i_or, i_and, i_andn, nt_le, nf_le, nt_lt, nf_lt, nt_eq, nf_eq, not_true_eq_false, and_self, and_false, false_and, eq_self, Bool.toNat_true, Bool.toNat_false, i_bool, i_bool1, Bool.false_eq_true, Bool.true_eq_false, reduceCtorEq, i_neg1, i_neg2, i_neg3, i_neg4, i_neg5, i_neg6, i_neg7, i_neg8, i_neg9, i_nega, i_negb, i_negc, i_max2, i_min2])
  refine c_weighed (by decide) hy ho (by decide) (fun g hg => ?_)
  try simp (disch := omega) only [no0, no1, nz1, nz2, nz3, nz4, nz5, nz7, nz8, Classical.not_not, bz0, bz1, wi_nil, ld_0, ld_s, isIv_I, isLv_L, isRv_R, true_and, and_true, lset_0, lset_1, lset_s, avw_I, avw_L, avw_R, clr_cons, clr_nil, kst_0, kst_1, kstL_0, kstL_1, addk_I, pA_0, pA_s, pD_0, pD_s, wid_nil, wid_cons, rcv_c, putv_I, putv_L, List.length_cons, List.length_nil, List.set_cons_zero, List.set_cons_succ, not_false_eq_true, Nat.reduceMod, Nat.reduceDiv, Nat.reduceEqDiff, Nat.reduceLT, Nat.reduceLeDiff, Nat.reduceAdd, Nat.reduceSub, reduceIte, Nat.lt_irrefl, Nat.zero_ne_one, Nat.one_ne_zero, Nat.zero_add, List.nil_append, List.cons_append, Option.toList_some, Option.toList_none, forall_const, false_implies, true_implies, false_or, or_false, true_or, or_true, i_le, i_lt, i_eq, i_eq0, i_lt0, i_0le, i_0lt, i_le0, i_in1, i_cl, nI_add, pk_mul, pk_sub, i_div, i_rem, i_sh1, i_bit, i_or, i_and, i_andn, nt_le, nf_le, nt_lt, nf_lt, nt_eq, nf_eq, not_true_eq_false, and_self, and_false, false_and, eq_self, Bool.toNat_true, Bool.toNat_false, i_bool, i_bool1, Bool.false_eq_true, Bool.true_eq_false, reduceCtorEq, i_neg1, i_neg2, i_neg3, i_neg4, i_neg5, i_neg6, i_neg7, i_neg8, i_neg9, i_nega, i_negb, i_negc, i_max2, i_min2, wi_nil]
  repeat (
    first
    | refine s_X8_fitting_0 ?_
    | refine s_X8_fitting_7 ?_
    | refine s_X8_fitting_39 ?_
    | refine s_X8_fitting_45 ?_
    | refine s_X8_fitting_51 ?_
    simp (disch := omega) only [B_X8_fitting_0, wi_aload_n, wi_getfield, fldv_7_3, fds_7_3, cnt_7, wi_invokevirtual, cnt_6, B_X8_fitting_7, wi_astore, wi_iconst, wi_istore, B_X8_fitting_15, wi_iload, wi_bipush, wi_icmp_ge, wi_iload_n, wi_iand, wi_icmp_ne, wi_aload, B_X8_fitting_39, wi_if_eq, wi_iinc, B_X8_fitting_45, wi_goto, B_X8_fitting_51, wi_ireturn, no0, no1, nz1, nz2, nz3, nz4, nz5, nz7, nz8, Classical.not_not, bz0, bz1, wi_nil, ld_0, ld_s, isIv_I, isLv_L, isRv_R, true_and, and_true, lset_0, lset_1, lset_s, avw_I, avw_L, avw_R, clr_cons, clr_nil, kst_0, kst_1, kstL_0, kstL_1, addk_I, pA_0, pA_s, pD_0, pD_s, wid_nil, wid_cons, rcv_c, putv_I, putv_L, List.length_cons, List.length_nil, List.set_cons_zero, List.set_cons_succ, not_false_eq_true, Nat.reduceMod, Nat.reduceDiv, Nat.reduceEqDiff, Nat.reduceLT, Nat.reduceLeDiff, Nat.reduceAdd, Nat.reduceSub, reduceIte, Nat.lt_irrefl, Nat.zero_ne_one, Nat.one_ne_zero, Nat.zero_add, List.nil_append, List.cons_append, Option.toList_some, Option.toList_none, forall_const, false_implies, true_implies, false_or, or_false, true_or, or_true, i_le, i_lt, i_eq, i_eq0, i_lt0, i_0le, i_0lt, i_le0, i_in1, i_cl, nI_add, pk_mul, pk_sub, i_div, i_rem, i_sh1, i_bit, i_or, i_and, i_andn, nt_le, nf_le, nt_lt, nf_lt, nt_eq, nf_eq, not_true_eq_false, and_self, and_false, false_and, eq_self, Bool.toNat_true, Bool.toNat_false, i_bool, i_bool1, Bool.false_eq_true, Bool.true_eq_false, reduceCtorEq, i_neg1, i_neg2, i_neg3, i_neg4, i_neg5, i_neg6, i_neg7, i_neg8, i_neg9, i_nega, i_negb, i_negc, i_max2, i_min2])
  exact l_fitting hv hmk ha (yrx_26 hy) ho (fun s hs => by rw [gA_same]; exact hg s hs) (q g hg) 32 0 rfl
theorem ct_00 {F : Nat → Bool} {n : Nat} : fb_ct (fun s => decide (s &&& 0 = 0) && F s) n = fb_ct F n := fb_ct_cong (fun k _ => by rw [Nat.and_zero, decide_eq_true rfl, Bool.true_and])
/-- what the reference has laid of j sets -/
def LF (S : MS) (Y : Nat → Nat → Nat) (v j : Nat) : Prop := gI S 8 0 29 = nI (fb_ct (fB Y v) j) ∧ gI S 8 0 30 = wrI (fsF (fB Y v) j) ∧ gI S 8 0 31 = nI (alF (fB Y v) (yop Y) j) ∧ gI S 8 0 32 = nI (anF (fB Y v) j) ∧ ∀ i, i < Y 6 0 → gA S 48 0 i = nI (fb_ct (fun s => fB Y v s && s.testBit i) j)
theorem l_lay0 {v : Nat} (hv : v < 1000) (hn5 : Y 6 0 ≤ 5) : ∀ (m i : Nat) (S : MS), i + m = Y 6 0 → gI S 8 0 10 = nI (Y 6 0) → wpX (d + 4) mX9_layFits 51 [aR 8 0, aI (nI v), aU, aU] [] (sA S 48 0 (fil (gA S 48 0) i (Y 6 0) (nI 0))) P → wpX (d + 4) mX9_layFits 30 [aR 8 0, aI (nI v), aI (nI i), aU] [] S P := by
  intro m
  induction m with
  | zero =>
    intro i S hi hn q
    have e : i = Y 6 0 := by omega
    rw [← e, fil_0, sA_self] at q
    refine s_X9_layFits_30 ?_
    simp (disch := omega) only [B_X9_layFits_30, wi_iload_n, wi_aload_n, wi_getfield, fldv_8_10, fds_8_10, cnt_8, wi_icmp_ge, fldv_8_33, fds_8_33, wi_iconst, wi_iastore, wi_iinc, wi_goto, cnt_40, aTy_40, aLn_40, arr_40, cnt_48, aTy_48, aLn_48, arr_48, no0, no1, nz1, nz2, nz3, nz4, nz5, nz7, nz8, Classical.not_not, bz0, bz1, wi_nil, ld_0, ld_s, isIv_I, isLv_L, isRv_R, true_and, and_true, lset_0, lset_1, lset_s, avw_I, avw_L, avw_R, clr_cons, clr_nil, kst_0, kst_1, kstL_0, kstL_1, addk_I, pA_0, pA_s, pD_0, pD_s, wid_nil, wid_cons, rcv_c, putv_I, putv_L, List.length_cons, List.length_nil, List.set_cons_zero, List.set_cons_succ, not_false_eq_true, Nat.reduceMod, Nat.reduceDiv, Nat.reduceEqDiff, Nat.reduceLT, Nat.reduceLeDiff, Nat.reduceAdd, Nat.reduceSub, reduceIte, Nat.lt_irrefl, Nat.zero_ne_one, Nat.one_ne_zero, Nat.zero_add, List.nil_append, List.cons_append, Option.toList_some, Option.toList_none, forall_const, false_implies, true_implies, false_or, or_false, true_or, or_true, i_le, i_lt, i_eq, i_eq0, i_lt0, i_0le, i_0lt, i_le0, i_in1, i_cl, nI_add, pk_mul, pk_sub, i_div, i_rem, i_sh1, i_bit, i_or, i_and, i_andn, nt_le, nf_le, nt_lt, nf_lt, nt_eq, nf_eq, not_true_eq_false, and_self, and_false, false_and, eq_self, Bool.toNat_true, Bool.toNat_false, i_bool, i_bool1, Bool.false_eq_true, Bool.true_eq_false, reduceCtorEq, i_neg1, i_neg2, i_neg3, i_neg4, i_neg5, i_neg6, i_neg7, i_neg8, i_neg9, i_nega, i_negb, i_negc, i_max2, i_min2, hn]
    exact q
  | succ m ih =>
    intro i S hi hn q
    refine s_X9_layFits_30 ?_
    simp (disch := omega) only [B_X9_layFits_30, wi_iload_n, wi_aload_n, wi_getfield, fldv_8_10, fds_8_10, cnt_8, wi_icmp_ge, fldv_8_33, fds_8_33, wi_iconst, wi_iastore, wi_iinc, wi_goto, cnt_40, aTy_40, aLn_40, arr_40, cnt_48, aTy_48, aLn_48, arr_48, no0, no1, nz1, nz2, nz3, nz4, nz5, nz7, nz8, Classical.not_not, bz0, bz1, wi_nil, ld_0, ld_s, isIv_I, isLv_L, isRv_R, true_and, and_true, lset_0, lset_1, lset_s, avw_I, avw_L, avw_R, clr_cons, clr_nil, kst_0, kst_1, kstL_0, kstL_1, addk_I, pA_0, pA_s, pD_0, pD_s, wid_nil, wid_cons, rcv_c, putv_I, putv_L, List.length_cons, List.length_nil, List.set_cons_zero, List.set_cons_succ, not_false_eq_true, Nat.reduceMod, Nat.reduceDiv, Nat.reduceEqDiff, Nat.reduceLT, Nat.reduceLeDiff, Nat.reduceAdd, Nat.reduceSub, reduceIte, Nat.lt_irrefl, Nat.zero_ne_one, Nat.one_ne_zero, Nat.zero_add, List.nil_append, List.cons_append, Option.toList_some, Option.toList_none, forall_const, false_implies, true_implies, false_or, or_false, true_or, or_true, i_le, i_lt, i_eq, i_eq0, i_lt0, i_0le, i_0lt, i_le0, i_in1, i_cl, nI_add, pk_mul, pk_sub, i_div, i_rem, i_sh1, i_bit, i_or, i_and, i_andn, nt_le, nf_le, nt_lt, nf_lt, nt_eq, nf_eq, not_true_eq_false, and_self, and_false, false_and, eq_self, Bool.toNat_true, Bool.toNat_false, i_bool, i_bool1, Bool.false_eq_true, Bool.true_eq_false, reduceCtorEq, i_neg1, i_neg2, i_neg3, i_neg4, i_neg5, i_neg6, i_neg7, i_neg8, i_neg9, i_nega, i_negb, i_negc, i_max2, i_min2, hn]
    refine ih (i + 1) _ (by omega) hn ?_
    rw [gA_same, sA_sA, fil_upd (by omega)]
    exact q
theorem l_lay2 {v j : Nat} (hv : v < 1000) (hj : j < 32) (hn5 : Y 6 0 ≤ 5) : ∀ (m i : Nat) (S : MS), i + m = Y 6 0 → gI S 8 0 10 = nI (Y 6 0) → (∀ k, k < Y 6 0 → gA S 48 0 k = nI (fb_ct (fun s => fB Y v s && s.testBit k) j + if k < i ∧ j.testBit k = true then 1 else 0)) → (∀ r, (∀ k, k < Y 6 0 → r k = nI (fb_ct (fun s => fB Y v s && s.testBit k) j + if j.testBit k = true then 1 else 0)) → wpX (d + 4) mX9_layFits 174 [aR 8 0, aI (nI v), aI (nI j), aU] [] (sA S 48 0 r) P) → wpX (d + 4) mX9_layFits 138 [aR 8 0, aI (nI v), aI (nI j), aI (nI i)] [] S P := by
  intro m
  induction m with
  | zero =>
    intro i S hi hn h q
    have e : i = Y 6 0 := by omega
    refine s_X9_layFits_138 ?_
    simp (disch := omega) only [B_X9_layFits_138, wi_iload_n, wi_aload_n, wi_getfield, fldv_8_10, fds_8_10, cnt_8, wi_icmp_ge, fldv_8_33, fds_8_33, wi_dup2, wi_iaload, wi_invokestatic, cnt_40, aTy_40, aLn_40, arr_40, cnt_48, aTy_48, aLn_48, arr_48, no0, no1, nz1, nz2, nz3, nz4, nz5, nz7, nz8, Classical.not_not, bz0, bz1, wi_nil, ld_0, ld_s, isIv_I, isLv_L, isRv_R, true_and, and_true, lset_0, lset_1, lset_s, avw_I, avw_L, avw_R, clr_cons, clr_nil, kst_0, kst_1, kstL_0, kstL_1, addk_I, pA_0, pA_s, pD_0, pD_s, wid_nil, wid_cons, rcv_c, putv_I, putv_L, List.length_cons, List.length_nil, List.set_cons_zero, List.set_cons_succ, not_false_eq_true, Nat.reduceMod, Nat.reduceDiv, Nat.reduceEqDiff, Nat.reduceLT, Nat.reduceLeDiff, Nat.reduceAdd, Nat.reduceSub, reduceIte, Nat.lt_irrefl, Nat.zero_ne_one, Nat.one_ne_zero, Nat.zero_add, List.nil_append, List.cons_append, Option.toList_some, Option.toList_none, forall_const, false_implies, true_implies, false_or, or_false, true_or, or_true, i_le, i_lt, i_eq, i_eq0, i_lt0, i_0le, i_0lt, i_le0, i_in1, i_cl, nI_add, pk_mul, pk_sub, i_div, i_rem, i_sh1, i_bit, i_or, i_and, i_andn, nt_le, nf_le, nt_lt, nf_lt, nt_eq, nf_eq, not_true_eq_false, and_self, and_false, false_and, eq_self, Bool.toNat_true, Bool.toNat_false, i_bool, i_bool1, Bool.false_eq_true, Bool.true_eq_false, reduceCtorEq, i_neg1, i_neg2, i_neg3, i_neg4, i_neg5, i_neg6, i_neg7, i_neg8, i_neg9, i_nega, i_negb, i_negc, i_max2, i_min2, hn]
    have := q (gA S 48 0) (fun k hk => by rw [h k hk, e]; simp only [hk, true_and])
    rw [sA_self] at this
    exact this
  | succ m ih =>
    intro i S hi hn h q
    have hi2 : i < Y 6 0 := by omega
    have hix := h i hi2
    rw [if_neg (fun z => Nat.lt_irrefl _ z.1), Nat.add_zero] at hix
    have hle := fb_ct_le (fun s => fB Y v s && s.testBit i) j
    have nxt : ∀ c, c = (if j.testBit i = true then 1 else 0) → wpX (d + 4) mX9_layFits 138 [aR 8 0, aI (nI v), aI (nI j), aI (nI (i + 1))] [] (sA S 48 0 (upd (gA S 48 0) i (nI (fb_ct (fun s => fB Y v s && s.testBit i) j + c)))) P := by
      intro c hc
      refine ih (i + 1) _ (by omega) hn (fun k hk => ?_) (fun r hr => ?_)
      · rw [gA_same]
        by_cases e : k = i
        · subst e
          rw [pk_us, hc]
          congr 2
          simp only [Nat.lt_succ_self, true_and]
        · rw [pk_un e, h k hk]
          congr 2
          by_cases e2 : k < i
          · simp only [e2, show k < i + 1 by omega, true_and]
          · simp only [e2, show ¬ k < i + 1 by omega, false_and]
      · rw [sA_sA]
        exact q r hr
    refine s_X9_layFits_138 ?_
    simp (disch := omega) only [B_X9_layFits_138, wi_iload_n, wi_aload_n, wi_getfield, fldv_8_10, fds_8_10, cnt_8, wi_icmp_ge, fldv_8_33, fds_8_33, wi_dup2, wi_iaload, wi_invokestatic, cnt_40, aTy_40, aLn_40, arr_40, cnt_48, aTy_48, aLn_48, arr_48, no0, no1, nz1, nz2, nz3, nz4, nz5, nz7, nz8, Classical.not_not, bz0, bz1, wi_nil, ld_0, ld_s, isIv_I, isLv_L, isRv_R, true_and, and_true, lset_0, lset_1, lset_s, avw_I, avw_L, avw_R, clr_cons, clr_nil, kst_0, kst_1, kstL_0, kstL_1, addk_I, pA_0, pA_s, pD_0, pD_s, wid_nil, wid_cons, rcv_c, putv_I, putv_L, List.length_cons, List.length_nil, List.set_cons_zero, List.set_cons_succ, not_false_eq_true, Nat.reduceMod, Nat.reduceDiv, Nat.reduceEqDiff, Nat.reduceLT, Nat.reduceLeDiff, Nat.reduceAdd, Nat.reduceSub, reduceIte, Nat.lt_irrefl, Nat.zero_ne_one, Nat.one_ne_zero, Nat.zero_add, List.nil_append, List.cons_append, Option.toList_some, Option.toList_none, forall_const, false_implies, true_implies, false_or, or_false, true_or, or_true, i_le, i_lt, i_eq, i_eq0, i_lt0, i_0le, i_0lt, i_le0, i_in1, i_cl, nI_add, pk_mul, pk_sub, i_div, i_rem, i_sh1, i_bit, i_or, i_and, i_andn, nt_le, nf_le, nt_lt, nf_lt, nt_eq, nf_eq, not_true_eq_false, and_self, and_false, false_and, eq_self, Bool.toNat_true, Bool.toNat_false, i_bool, i_bool1, Bool.false_eq_true, Bool.true_eq_false, reduceCtorEq, i_neg1, i_neg2, i_neg3, i_neg4, i_neg5, i_neg6, i_neg7, i_neg8, i_neg9, i_nega, i_negb, i_negc, i_max2, i_min2, hn, hix]
    refine c_has (by omega) (by omega) ?_
    cases hb : j.testBit i
    · try simp (disch := omega) only [no0, no1, nz1, nz2, nz3, nz4, nz5, nz7, nz8, Classical.not_not, bz0, bz1, wi_nil, ld_0, ld_s, isIv_I, isLv_L, isRv_R, true_and, and_true, lset_0, lset_1, lset_s, avw_I, avw_L, avw_R, clr_cons, clr_nil, kst_0, kst_1, kstL_0, kstL_1, addk_I, pA_0, pA_s, pD_0, pD_s, wid_nil, wid_cons, rcv_c, putv_I, putv_L, List.length_cons, List.length_nil, List.set_cons_zero, List.set_cons_succ, not_false_eq_true, Nat.reduceMod, Nat.reduceDiv, Nat.reduceEqDiff, Nat.reduceLT, Nat.reduceLeDiff, Nat.reduceAdd, Nat.reduceSub, reduceIte, Nat.lt_irrefl, Nat.zero_ne_one, Nat.one_ne_zero, Nat.zero_add, List.nil_append, List.cons_append, Option.toList_some, Option.toList_none, forall_const, false_implies, true_implies, false_or, or_false, true_or, or_true, i_le, i_lt, i_eq, i_eq0, i_lt0, i_0le, i_0lt, i_le0, i_in1, i_cl, nI_add, pk_mul, pk_sub, i_div, i_rem, i_sh1, i_bit, i_or, i_and, i_andn, nt_le, nf_le, nt_lt, nf_lt, nt_eq, nf_eq, not_true_eq_false, and_self, and_false, false_and, eq_self, Bool.toNat_true, Bool.toNat_false, i_bool, i_bool1, Bool.false_eq_true, Bool.true_eq_false, reduceCtorEq, i_neg1, i_neg2, i_neg3, i_neg4, i_neg5, i_neg6, i_neg7, i_neg8, i_neg9, i_nega, i_negb, i_negc, i_max2, i_min2, hb, wi_nil]
      repeat (
        first
        | refine s_X9_layFits_0 ?_
        | refine s_X9_layFits_20 ?_
        | refine s_X9_layFits_51 ?_
        | refine s_X9_layFits_83 ?_
        | refine s_X9_layFits_99 ?_
        | refine s_X9_layFits_103 ?_
        | refine s_X9_layFits_158 ?_
        | refine s_X9_layFits_165 ?_
        | refine s_X9_layFits_166 ?_
        | refine s_X9_layFits_174 ?_
        | refine s_X9_layFits_180 ?_
        simp (disch := omega) only [B_X9_layFits_0, wi_aload_n, wi_iconst, wi_putfield, pOk_8_29, cnt_8, wi_bipush, pOk_8_30, wi_getfield, fldv_8_20, fds_8_20, wi_invokevirtual, B_X9_layFits_20, pOk_8_31, pOk_8_32, wi_istore_n, B_X9_layFits_30, wi_iload_n, fldv_8_10, fds_8_10, wi_icmp_ge, fldv_8_33, fds_8_33, wi_iastore, wi_iinc, wi_goto, cnt_40, aTy_40, aLn_40, arr_40, cnt_48, aTy_48, aLn_48, arr_48, B_X9_layFits_51, B_X9_layFits_53, wi_ishl, wi_iaload, wi_iand, wi_if_ne, B_X9_layFits_83, wi_icmp_ne, fldv_8_29, fds_8_29, B_X9_layFits_99, fldv_8_30, fds_8_30, B_X9_layFits_103, wi_dup, wi_iadd, fldv_8_31, fds_8_31, fldv_8_32, fds_8_32, wi_ior, B_X9_layFits_138, wi_dup2, wi_invokestatic, B_X9_layFits_158, wi_if_eq, B_X9_layFits_165, B_X9_layFits_166, B_X9_layFits_174, B_X9_layFits_180, wi_return_, no0, no1, nz1, nz2, nz3, nz4, nz5, nz7, nz8, Classical.not_not, bz0, bz1, wi_nil, ld_0, ld_s, isIv_I, isLv_L, isRv_R, true_and, and_true, lset_0, lset_1, lset_s, avw_I, avw_L, avw_R, clr_cons, clr_nil, kst_0, kst_1, kstL_0, kstL_1, addk_I, pA_0, pA_s, pD_0, pD_s, wid_nil, wid_cons, rcv_c, putv_I, putv_L, List.length_cons, List.length_nil, List.set_cons_zero, List.set_cons_succ, not_false_eq_true, Nat.reduceMod, Nat.reduceDiv, Nat.reduceEqDiff, Nat.reduceLT, Nat.reduceLeDiff, Nat.reduceAdd, Nat.reduceSub, reduceIte, Nat.lt_irrefl, Nat.zero_ne_one, Nat.one_ne_zero, Nat.zero_add, List.nil_append, List.cons_append, Option.toList_some, Option.toList_none, forall_const, false_implies, true_implies, false_or, or_false, true_or, or_true, i_le, i_lt, i_eq, i_eq0, i_lt0, i_0le, i_0lt, i_le0, i_in1, i_cl, nI_add, pk_mul, pk_sub, i_div, i_rem, i_sh1, i_bit, i_or, i_and, i_andn, nt_le, nf_le, nt_lt, nf_lt, nt_eq, nf_eq, not_true_eq_false, and_self, and_false, false_and, eq_self, Bool.toNat_true, Bool.toNat_false, i_bool, i_bool1, Bool.false_eq_true, Bool.true_eq_false, reduceCtorEq, i_neg1, i_neg2, i_neg3, i_neg4, i_neg5, i_neg6, i_neg7, i_neg8, i_neg9, i_nega, i_negb, i_negc, i_max2, i_min2, hb])
      exact nxt 0 (by rw [hb]; rfl)
    · try simp (disch := omega) only [no0, no1, nz1, nz2, nz3, nz4, nz5, nz7, nz8, Classical.not_not, bz0, bz1, wi_nil, ld_0, ld_s, isIv_I, isLv_L, isRv_R, true_and, and_true, lset_0, lset_1, lset_s, avw_I, avw_L, avw_R, clr_cons, clr_nil, kst_0, kst_1, kstL_0, kstL_1, addk_I, pA_0, pA_s, pD_0, pD_s, wid_nil, wid_cons, rcv_c, putv_I, putv_L, List.length_cons, List.length_nil, List.set_cons_zero, List.set_cons_succ, not_false_eq_true, Nat.reduceMod, Nat.reduceDiv, Nat.reduceEqDiff, Nat.reduceLT, Nat.reduceLeDiff, Nat.reduceAdd, Nat.reduceSub, reduceIte, Nat.lt_irrefl, Nat.zero_ne_one, Nat.one_ne_zero, Nat.zero_add, List.nil_append, List.cons_append, Option.toList_some, Option.toList_none, forall_const, false_implies, true_implies, false_or, or_false, true_or, or_true, i_le, i_lt, i_eq, i_eq0, i_lt0, i_0le, i_0lt, i_le0, i_in1, i_cl, nI_add, pk_mul, pk_sub, i_div, i_rem, i_sh1, i_bit, i_or, i_and, i_andn, nt_le, nf_le, nt_lt, nf_lt, nt_eq, nf_eq, not_true_eq_false, and_self, and_false, false_and, eq_self, Bool.toNat_true, Bool.toNat_false, i_bool, i_bool1, Bool.false_eq_true, Bool.true_eq_false, reduceCtorEq, i_neg1, i_neg2, i_neg3, i_neg4, i_neg5, i_neg6, i_neg7, i_neg8, i_neg9, i_nega, i_negb, i_negc, i_max2, i_min2, hb, wi_nil]
      repeat (
        first
        | refine s_X9_layFits_0 ?_
        | refine s_X9_layFits_20 ?_
        | refine s_X9_layFits_51 ?_
        | refine s_X9_layFits_83 ?_
        | refine s_X9_layFits_99 ?_
        | refine s_X9_layFits_103 ?_
        | refine s_X9_layFits_158 ?_
        | refine s_X9_layFits_165 ?_
        | refine s_X9_layFits_166 ?_
        | refine s_X9_layFits_174 ?_
        | refine s_X9_layFits_180 ?_
        simp (disch := omega) only [B_X9_layFits_0, wi_aload_n, wi_iconst, wi_putfield, pOk_8_29, cnt_8, wi_bipush, pOk_8_30, wi_getfield, fldv_8_20, fds_8_20, wi_invokevirtual, B_X9_layFits_20, pOk_8_31, pOk_8_32, wi_istore_n, B_X9_layFits_30, wi_iload_n, fldv_8_10, fds_8_10, wi_icmp_ge, fldv_8_33, fds_8_33, wi_iastore, wi_iinc, wi_goto, cnt_40, aTy_40, aLn_40, arr_40, cnt_48, aTy_48, aLn_48, arr_48, B_X9_layFits_51, B_X9_layFits_53, wi_ishl, wi_iaload, wi_iand, wi_if_ne, B_X9_layFits_83, wi_icmp_ne, fldv_8_29, fds_8_29, B_X9_layFits_99, fldv_8_30, fds_8_30, B_X9_layFits_103, wi_dup, wi_iadd, fldv_8_31, fds_8_31, fldv_8_32, fds_8_32, wi_ior, B_X9_layFits_138, wi_dup2, wi_invokestatic, B_X9_layFits_158, wi_if_eq, B_X9_layFits_165, B_X9_layFits_166, B_X9_layFits_174, B_X9_layFits_180, wi_return_, no0, no1, nz1, nz2, nz3, nz4, nz5, nz7, nz8, Classical.not_not, bz0, bz1, wi_nil, ld_0, ld_s, isIv_I, isLv_L, isRv_R, true_and, and_true, lset_0, lset_1, lset_s, avw_I, avw_L, avw_R, clr_cons, clr_nil, kst_0, kst_1, kstL_0, kstL_1, addk_I, pA_0, pA_s, pD_0, pD_s, wid_nil, wid_cons, rcv_c, putv_I, putv_L, List.length_cons, List.length_nil, List.set_cons_zero, List.set_cons_succ, not_false_eq_true, Nat.reduceMod, Nat.reduceDiv, Nat.reduceEqDiff, Nat.reduceLT, Nat.reduceLeDiff, Nat.reduceAdd, Nat.reduceSub, reduceIte, Nat.lt_irrefl, Nat.zero_ne_one, Nat.one_ne_zero, Nat.zero_add, List.nil_append, List.cons_append, Option.toList_some, Option.toList_none, forall_const, false_implies, true_implies, false_or, or_false, true_or, or_true, i_le, i_lt, i_eq, i_eq0, i_lt0, i_0le, i_0lt, i_le0, i_in1, i_cl, nI_add, pk_mul, pk_sub, i_div, i_rem, i_sh1, i_bit, i_or, i_and, i_andn, nt_le, nf_le, nt_lt, nf_lt, nt_eq, nf_eq, not_true_eq_false, and_self, and_false, false_and, eq_self, Bool.toNat_true, Bool.toNat_false, i_bool, i_bool1, Bool.false_eq_true, Bool.true_eq_false, reduceCtorEq, i_neg1, i_neg2, i_neg3, i_neg4, i_neg5, i_neg6, i_neg7, i_neg8, i_neg9, i_nega, i_negb, i_negc, i_max2, i_min2, hb])
      exact nxt 1 (by rw [hb]; rfl)
theorem l_lay1 {v : Nat} {S0 : MS} (hv : v < 1000) (hm0 : YrM S0 40 Y) (ho : YOk 40 Y) (q : ∀ S2, LF S2 Y v (2 ^ Y 6 0) → Fs S0 S2 → P none S2) : ∀ (m j : Nat) (S : MS), j + m = 2 ^ Y 6 0 → LF S Y v j → Fs S0 S → wpX (d + 4) mX9_layFits 53 [aR 8 0, aI (nI v), aI (nI j), aU] [] S P := by
  have hn5 := ho.1.1
  have h32 := p2_lt hn5
  have hyl := yop_lt (Y := Y) hn5
  intro m
  induction m with
  | zero =>
    intro j S hj hL hf
    have e : j = 2 ^ Y 6 0 := by omega
    subst e
    have hm : YrM S 40 Y := yrm_fr hm0 hf rfl rfl
    refine s_X9_layFits_53 ?_
    simp (disch := omega) only [B_X9_layFits_53, wi_iload_n, wi_iconst, wi_aload_n, wi_getfield, fldv_8_10, fds_8_10, cnt_8, wi_ishl, wi_icmp_ge, fldv_8_20, fds_8_20, wi_iaload, wi_iand, wi_if_ne, wi_invokevirtual, cnt_40, aTy_40, aLn_40, arr_40, cnt_48, aTy_48, aLn_48, arr_48, no0, no1, nz1, nz2, nz3, nz4, nz5, nz7, nz8, Classical.not_not, bz0, bz1, wi_nil, ld_0, ld_s, isIv_I, isLv_L, isRv_R, true_and, and_true, lset_0, lset_1, lset_s, avw_I, avw_L, avw_R, clr_cons, clr_nil, kst_0, kst_1, kstL_0, kstL_1, addk_I, pA_0, pA_s, pD_0, pD_s, wid_nil, wid_cons, rcv_c, putv_I, putv_L, List.length_cons, List.length_nil, List.set_cons_zero, List.set_cons_succ, not_false_eq_true, Nat.reduceMod, Nat.reduceDiv, Nat.reduceEqDiff, Nat.reduceLT, Nat.reduceLeDiff, Nat.reduceAdd, Nat.reduceSub, reduceIte, Nat.lt_irrefl, Nat.zero_ne_one, Nat.one_ne_zero, Nat.zero_add, List.nil_append, List.cons_append, Option.toList_some, Option.toList_none, forall_const, false_implies, true_implies, false_or, or_false, true_or, or_true, i_le, i_lt, i_eq, i_eq0, i_lt0, i_0le, i_0lt, i_le0, i_in1, i_cl, nI_add, pk_mul, pk_sub, i_div, i_rem, i_sh1, i_bit, i_or, i_and, i_andn, nt_le, nf_le, nt_lt, nf_lt, nt_eq, nf_eq, not_true_eq_false, and_self, and_false, false_and, eq_self, Bool.toNat_true, Bool.toNat_false, i_bool, i_bool1, Bool.false_eq_true, Bool.true_eq_false, reduceCtorEq, i_neg1, i_neg2, i_neg3, i_neg4, i_neg5, i_neg6, i_neg7, i_neg8, i_neg9, i_nega, i_negb, i_negc, i_max2, i_min2, (m_n hm)]
    try simp (disch := omega) only [no0, no1, nz1, nz2, nz3, nz4, nz5, nz7, nz8, Classical.not_not, bz0, bz1, wi_nil, ld_0, ld_s, isIv_I, isLv_L, isRv_R, true_and, and_true, lset_0, lset_1, lset_s, avw_I, avw_L, avw_R, clr_cons, clr_nil, kst_0, kst_1, kstL_0, kstL_1, addk_I, pA_0, pA_s, pD_0, pD_s, wid_nil, wid_cons, rcv_c, putv_I, putv_L, List.length_cons, List.length_nil, List.set_cons_zero, List.set_cons_succ, not_false_eq_true, Nat.reduceMod, Nat.reduceDiv, Nat.reduceEqDiff, Nat.reduceLT, Nat.reduceLeDiff, Nat.reduceAdd, Nat.reduceSub, reduceIte, Nat.lt_irrefl, Nat.zero_ne_one, Nat.one_ne_zero, Nat.zero_add, List.nil_append, List.cons_append, Option.toList_some, Option.toList_none, forall_const, false_implies, true_implies, false_or, or_false, true_or, or_true, i_le, i_lt, i_eq, i_eq0, i_lt0, i_0le, i_0lt, i_le0, i_in1, i_cl, nI_add, pk_mul, pk_sub, i_div, i_rem, i_sh1, i_bit, i_or, i_and, i_andn, nt_le, nf_le, nt_lt, nf_lt, nt_eq, nf_eq, not_true_eq_false, and_self, and_false, false_and, eq_self, Bool.toNat_true, Bool.toNat_false, i_bool, i_bool1, Bool.false_eq_true, Bool.true_eq_false, reduceCtorEq, i_neg1, i_neg2, i_neg3, i_neg4, i_neg5, i_neg6, i_neg7, i_neg8, i_neg9, i_nega, i_negb, i_negc, i_max2, i_min2, wi_nil]
    repeat (
      first
      | refine s_X9_layFits_0 ?_
      | refine s_X9_layFits_20 ?_
      | refine s_X9_layFits_51 ?_
      | refine s_X9_layFits_83 ?_
      | refine s_X9_layFits_99 ?_
      | refine s_X9_layFits_103 ?_
      | refine s_X9_layFits_158 ?_
      | refine s_X9_layFits_165 ?_
      | refine s_X9_layFits_166 ?_
      | refine s_X9_layFits_174 ?_
      | refine s_X9_layFits_180 ?_
      simp (disch := omega) only [B_X9_layFits_0, wi_aload_n, wi_iconst, wi_putfield, pOk_8_29, cnt_8, wi_bipush, pOk_8_30, wi_getfield, fldv_8_20, fds_8_20, wi_invokevirtual, B_X9_layFits_20, pOk_8_31, pOk_8_32, wi_istore_n, B_X9_layFits_30, wi_iload_n, fldv_8_10, fds_8_10, wi_icmp_ge, fldv_8_33, fds_8_33, wi_iastore, wi_iinc, wi_goto, cnt_40, aTy_40, aLn_40, arr_40, cnt_48, aTy_48, aLn_48, arr_48, B_X9_layFits_51, B_X9_layFits_53, wi_ishl, wi_iaload, wi_iand, wi_if_ne, B_X9_layFits_83, wi_icmp_ne, fldv_8_29, fds_8_29, B_X9_layFits_99, fldv_8_30, fds_8_30, B_X9_layFits_103, wi_dup, wi_iadd, fldv_8_31, fds_8_31, fldv_8_32, fds_8_32, wi_ior, B_X9_layFits_138, wi_dup2, wi_invokestatic, B_X9_layFits_158, wi_if_eq, B_X9_layFits_165, B_X9_layFits_166, B_X9_layFits_174, B_X9_layFits_180, wi_return_, no0, no1, nz1, nz2, nz3, nz4, nz5, nz7, nz8, Classical.not_not, bz0, bz1, wi_nil, ld_0, ld_s, isIv_I, isLv_L, isRv_R, true_and, and_true, lset_0, lset_1, lset_s, avw_I, avw_L, avw_R, clr_cons, clr_nil, kst_0, kst_1, kstL_0, kstL_1, addk_I, pA_0, pA_s, pD_0, pD_s, wid_nil, wid_cons, rcv_c, putv_I, putv_L, List.length_cons, List.length_nil, List.set_cons_zero, List.set_cons_succ, not_false_eq_true, Nat.reduceMod, Nat.reduceDiv, Nat.reduceEqDiff, Nat.reduceLT, Nat.reduceLeDiff, Nat.reduceAdd, Nat.reduceSub, reduceIte, Nat.lt_irrefl, Nat.zero_ne_one, Nat.one_ne_zero, Nat.zero_add, List.nil_append, List.cons_append, Option.toList_some, Option.toList_none, forall_const, false_implies, true_implies, false_or, or_false, true_or, or_true, i_le, i_lt, i_eq, i_eq0, i_lt0, i_0le, i_0lt, i_le0, i_in1, i_cl, nI_add, pk_mul, pk_sub, i_div, i_rem, i_sh1, i_bit, i_or, i_and, i_andn, nt_le, nf_le, nt_lt, nf_lt, nt_eq, nf_eq, not_true_eq_false, and_self, and_false, false_and, eq_self, Bool.toNat_true, Bool.toNat_false, i_bool, i_bool1, Bool.false_eq_true, Bool.true_eq_false, reduceCtorEq, i_neg1, i_neg2, i_neg3, i_neg4, i_neg5, i_neg6, i_neg7, i_neg8, i_neg9, i_nega, i_negb, i_negc, i_max2, i_min2])
    exact q S hL hf
  | succ m ih =>
    intro j S hj hL hf
    have hm : YrM S 40 Y := yrm_fr hm0 hf rfl rfl
    have a1 : j &&& Y 6 4 < 32 := and_lt32 (by omega)
    have hcs := csum_lt ho j
    have hsb := subB_iff ho (s := j) (by omega)
    have hal := al_lt (F := fB Y v) hyl j
    have han := an_lt (F := fB Y v) j (by omega)
    have hct := fb_ct_le (fB Y v) j
    obtain ⟨l1, l2, l3, l4, l5⟩ := id hL
    have no : fB Y v j = false → LF S Y v (j + 1) := by
      intro hF
      refine ⟨?_, ?_, ?_, ?_, fun i hi => ?_⟩
      · rw [fb_ct_succ, hF, if_neg (by decide)]; exact l1
      · rw [fsF, hF]
        rw [l2]
        cases fsF (fB Y v) j <;> rfl
      · rw [alF, hF, if_neg (by decide)]; exact l3
      · rw [anF, hF, if_neg (by decide)]; exact l4
      · rw [fb_ct_succ, hF, Bool.false_and, if_neg (by decide)]; exact l5 i hi
    by_cases c1 : j &&& Y 6 4 = 0
    · have hsj : subB Y j = true := hsb.mpr ⟨by omega, c1⟩
      refine s_X9_layFits_53 ?_
      simp (disch := omega) only [B_X9_layFits_53, wi_iload_n, wi_iconst, wi_aload_n, wi_getfield, fldv_8_10, fds_8_10, cnt_8, wi_ishl, wi_icmp_ge, fldv_8_20, fds_8_20, wi_iaload, wi_iand, wi_if_ne, wi_invokevirtual, cnt_40, aTy_40, aLn_40, arr_40, cnt_48, aTy_48, aLn_48, arr_48, no0, no1, nz1, nz2, nz3, nz4, nz5, nz7, nz8, Classical.not_not, bz0, bz1, wi_nil, ld_0, ld_s, isIv_I, isLv_L, isRv_R, true_and, and_true, lset_0, lset_1, lset_s, avw_I, avw_L, avw_R, clr_cons, clr_nil, kst_0, kst_1, kstL_0, kstL_1, addk_I, pA_0, pA_s, pD_0, pD_s, wid_nil, wid_cons, rcv_c, putv_I, putv_L, List.length_cons, List.length_nil, List.set_cons_zero, List.set_cons_succ, not_false_eq_true, Nat.reduceMod, Nat.reduceDiv, Nat.reduceEqDiff, Nat.reduceLT, Nat.reduceLeDiff, Nat.reduceAdd, Nat.reduceSub, reduceIte, Nat.lt_irrefl, Nat.zero_ne_one, Nat.one_ne_zero, Nat.zero_add, List.nil_append, List.cons_append, Option.toList_some, Option.toList_none, forall_const, false_implies, true_implies, false_or, or_false, true_or, or_true, i_le, i_lt, i_eq, i_eq0, i_lt0, i_0le, i_0lt, i_le0, i_in1, i_cl, nI_add, pk_mul, pk_sub, i_div, i_rem, i_sh1, i_bit, i_or, i_and, i_andn, nt_le, nf_le, nt_lt, nf_lt, nt_eq, nf_eq, not_true_eq_false, and_self, and_false, false_and, eq_self, Bool.toNat_true, Bool.toNat_false, i_bool, i_bool1, Bool.false_eq_true, Bool.true_eq_false, reduceCtorEq, i_neg1, i_neg2, i_neg3, i_neg4, i_neg5, i_neg6, i_neg7, i_neg8, i_neg9, i_nega, i_negb, i_negc, i_max2, i_min2, (m_n hm), (m_gone hm)]
      refine c_costsOf (Or.inl rfl) hm ho (by decide) (by omega) ?_
      by_cases c2 : csum (ycz Y) 5 j = v
      · have hF : fB Y v j = true := by unfold fB; rw [hsj, decide_eq_true c2]; rfl
        have yes : ∀ U, gI U 8 0 10 = nI (Y 6 0) → gI U 8 0 29 = nI (fb_ct (fB Y v) j + 1) → gI U 8 0 30 = wrI (fsF (fB Y v) (j + 1)) → gI U 8 0 31 = nI (alF (fB Y v) (yop Y) j &&& j) → gI U 8 0 32 = nI (anF (fB Y v) j ||| j) → gA U 48 0 = gA S 48 0 → Fs S U → wpX (d + 4) mX9_layFits 138 [aR 8 0, aI (nI v), aI (nI j), aI (nI 0)] [] U P := by
          intro U u10 u1 u2 u3 u4 u5 uf
          refine l_lay2 hv (by omega) hn5 (Y 6 0) 0 U (by omega) u10 (fun k hk => ?_) (fun r hr => ?_)
          · rw [u5, if_neg (fun z => Nat.not_lt_zero _ z.1), Nat.add_zero]
            exact l5 k hk
          · try simp (disch := omega) only [no0, no1, nz1, nz2, nz3, nz4, nz5, nz7, nz8, Classical.not_not, bz0, bz1, wi_nil, ld_0, ld_s, isIv_I, isLv_L, isRv_R, true_and, and_true, lset_0, lset_1, lset_s, avw_I, avw_L, avw_R, clr_cons, clr_nil, kst_0, kst_1, kstL_0, kstL_1, addk_I, pA_0, pA_s, pD_0, pD_s, wid_nil, wid_cons, rcv_c, putv_I, putv_L, List.length_cons, List.length_nil, List.set_cons_zero, List.set_cons_succ, not_false_eq_true, Nat.reduceMod, Nat.reduceDiv, Nat.reduceEqDiff, Nat.reduceLT, Nat.reduceLeDiff, Nat.reduceAdd, Nat.reduceSub, reduceIte, Nat.lt_irrefl, Nat.zero_ne_one, Nat.one_ne_zero, Nat.zero_add, List.nil_append, List.cons_append, Option.toList_some, Option.toList_none, forall_const, false_implies, true_implies, false_or, or_false, true_or, or_true, i_le, i_lt, i_eq, i_eq0, i_lt0, i_0le, i_0lt, i_le0, i_in1, i_cl, nI_add, pk_mul, pk_sub, i_div, i_rem, i_sh1, i_bit, i_or, i_and, i_andn, nt_le, nf_le, nt_lt, nf_lt, nt_eq, nf_eq, not_true_eq_false, and_self, and_false, false_and, eq_self, Bool.toNat_true, Bool.toNat_false, i_bool, i_bool1, Bool.false_eq_true, Bool.true_eq_false, reduceCtorEq, i_neg1, i_neg2, i_neg3, i_neg4, i_neg5, i_neg6, i_neg7, i_neg8, i_neg9, i_nega, i_negb, i_negc, i_max2, i_min2, wi_nil]
            repeat (
              first
              | refine s_X9_layFits_0 ?_
              | refine s_X9_layFits_20 ?_
              | refine s_X9_layFits_51 ?_
              | refine s_X9_layFits_83 ?_
              | refine s_X9_layFits_99 ?_
              | refine s_X9_layFits_103 ?_
              | refine s_X9_layFits_158 ?_
              | refine s_X9_layFits_165 ?_
              | refine s_X9_layFits_166 ?_
              | refine s_X9_layFits_174 ?_
              | refine s_X9_layFits_180 ?_
              simp (disch := omega) only [B_X9_layFits_0, wi_aload_n, wi_iconst, wi_putfield, pOk_8_29, cnt_8, wi_bipush, pOk_8_30, wi_getfield, fldv_8_20, fds_8_20, wi_invokevirtual, B_X9_layFits_20, pOk_8_31, pOk_8_32, wi_istore_n, B_X9_layFits_30, wi_iload_n, fldv_8_10, fds_8_10, wi_icmp_ge, fldv_8_33, fds_8_33, wi_iastore, wi_iinc, wi_goto, cnt_40, aTy_40, aLn_40, arr_40, cnt_48, aTy_48, aLn_48, arr_48, B_X9_layFits_51, B_X9_layFits_53, wi_ishl, wi_iaload, wi_iand, wi_if_ne, B_X9_layFits_83, wi_icmp_ne, fldv_8_29, fds_8_29, B_X9_layFits_99, fldv_8_30, fds_8_30, B_X9_layFits_103, wi_dup, wi_iadd, fldv_8_31, fds_8_31, fldv_8_32, fds_8_32, wi_ior, B_X9_layFits_138, wi_dup2, wi_invokestatic, B_X9_layFits_158, wi_if_eq, B_X9_layFits_165, B_X9_layFits_166, B_X9_layFits_174, B_X9_layFits_180, wi_return_, no0, no1, nz1, nz2, nz3, nz4, nz5, nz7, nz8, Classical.not_not, bz0, bz1, wi_nil, ld_0, ld_s, isIv_I, isLv_L, isRv_R, true_and, and_true, lset_0, lset_1, lset_s, avw_I, avw_L, avw_R, clr_cons, clr_nil, kst_0, kst_1, kstL_0, kstL_1, addk_I, pA_0, pA_s, pD_0, pD_s, wid_nil, wid_cons, rcv_c, putv_I, putv_L, List.length_cons, List.length_nil, List.set_cons_zero, List.set_cons_succ, not_false_eq_true, Nat.reduceMod, Nat.reduceDiv, Nat.reduceEqDiff, Nat.reduceLT, Nat.reduceLeDiff, Nat.reduceAdd, Nat.reduceSub, reduceIte, Nat.lt_irrefl, Nat.zero_ne_one, Nat.one_ne_zero, Nat.zero_add, List.nil_append, List.cons_append, Option.toList_some, Option.toList_none, forall_const, false_implies, true_implies, false_or, or_false, true_or, or_true, i_le, i_lt, i_eq, i_eq0, i_lt0, i_0le, i_0lt, i_le0, i_in1, i_cl, nI_add, pk_mul, pk_sub, i_div, i_rem, i_sh1, i_bit, i_or, i_and, i_andn, nt_le, nf_le, nt_lt, nf_lt, nt_eq, nf_eq, not_true_eq_false, and_self, and_false, false_and, eq_self, Bool.toNat_true, Bool.toNat_false, i_bool, i_bool1, Bool.false_eq_true, Bool.true_eq_false, reduceCtorEq, i_neg1, i_neg2, i_neg3, i_neg4, i_neg5, i_neg6, i_neg7, i_neg8, i_neg9, i_nega, i_negb, i_negc, i_max2, i_min2])
            refine ih (j + 1) _ (by omega) ⟨?_, u2, ?_, ?_, fun i hi => ?_⟩ ((hf.trans uf).trans (fr_sA rfl))
            · rw [fb_ct_succ, hF, if_pos rfl]; exact u1
            · rw [alF, hF, if_pos rfl]; exact u3
            · rw [anF, hF, if_pos rfl]; exact u4
            · rw [gA_same, hr i hi, fb_ct_succ, hF, Bool.true_and]
        have e2 : fsF (fB Y v) (j + 1) = match fsF (fB Y v) j with
          | some b => some b
          | none => some j := by
          rw [fsF, hF]
          rfl
        cases hfs : fsF (fB Y v) j with
        | none =>
          have hz := fsF_none.mp hfs
          rw [hfs] at e2
          have e2 : fsF (fB Y v) (j + 1) = some j := e2
          rw [e2, hz] at yes
          rw [hz] at l1
          try simp (disch := omega) only [no0, no1, nz1, nz2, nz3, nz4, nz5, nz7, nz8, Classical.not_not, bz0, bz1, wi_nil, ld_0, ld_s, isIv_I, isLv_L, isRv_R, true_and, and_true, lset_0, lset_1, lset_s, avw_I, avw_L, avw_R, clr_cons, clr_nil, kst_0, kst_1, kstL_0, kstL_1, addk_I, pA_0, pA_s, pD_0, pD_s, wid_nil, wid_cons, rcv_c, putv_I, putv_L, List.length_cons, List.length_nil, List.set_cons_zero, List.set_cons_succ, not_false_eq_true, Nat.reduceMod, Nat.reduceDiv, Nat.reduceEqDiff, Nat.reduceLT, Nat.reduceLeDiff, Nat.reduceAdd, Nat.reduceSub, reduceIte, Nat.lt_irrefl, Nat.zero_ne_one, Nat.one_ne_zero, Nat.zero_add, List.nil_append, List.cons_append, Option.toList_some, Option.toList_none, forall_const, false_implies, true_implies, false_or, or_false, true_or, or_true, i_le, i_lt, i_eq, i_eq0, i_lt0, i_0le, i_0lt, i_le0, i_in1, i_cl, nI_add, pk_mul, pk_sub, i_div, i_rem, i_sh1, i_bit, i_or, i_and, i_andn, nt_le, nf_le, nt_lt, nf_lt, nt_eq, nf_eq, not_true_eq_false, and_self, and_false, false_and, eq_self, Bool.toNat_true, Bool.toNat_false, i_bool, i_bool1, Bool.false_eq_true, Bool.true_eq_false, reduceCtorEq, i_neg1, i_neg2, i_neg3, i_neg4, i_neg5, i_neg6, i_neg7, i_neg8, i_neg9, i_nega, i_negb, i_negc, i_max2, i_min2, l1, l3, l4, gI_sI, gI_sL, gI_sA, gL_sI, gL_sL, gL_sA, gA_sI, gA_sL, gA_sA, sA_sA, wi_nil]
          repeat (
            first
            | refine s_X9_layFits_0 ?_
            | refine s_X9_layFits_20 ?_
            | refine s_X9_layFits_51 ?_
            | refine s_X9_layFits_83 ?_
            | refine s_X9_layFits_99 ?_
            | refine s_X9_layFits_103 ?_
            | refine s_X9_layFits_158 ?_
            | refine s_X9_layFits_165 ?_
            | refine s_X9_layFits_166 ?_
            | refine s_X9_layFits_174 ?_
            | refine s_X9_layFits_180 ?_
            simp (disch := omega) only [B_X9_layFits_0, wi_aload_n, wi_iconst, wi_putfield, pOk_8_29, cnt_8, wi_bipush, pOk_8_30, wi_getfield, fldv_8_20, fds_8_20, wi_invokevirtual, B_X9_layFits_20, pOk_8_31, pOk_8_32, wi_istore_n, B_X9_layFits_30, wi_iload_n, fldv_8_10, fds_8_10, wi_icmp_ge, fldv_8_33, fds_8_33, wi_iastore, wi_iinc, wi_goto, cnt_40, aTy_40, aLn_40, arr_40, cnt_48, aTy_48, aLn_48, arr_48, B_X9_layFits_51, B_X9_layFits_53, wi_ishl, wi_iaload, wi_iand, wi_if_ne, B_X9_layFits_83, wi_icmp_ne, fldv_8_29, fds_8_29, B_X9_layFits_99, fldv_8_30, fds_8_30, B_X9_layFits_103, wi_dup, wi_iadd, fldv_8_31, fds_8_31, fldv_8_32, fds_8_32, wi_ior, B_X9_layFits_138, wi_dup2, wi_invokestatic, B_X9_layFits_158, wi_if_eq, B_X9_layFits_165, B_X9_layFits_166, B_X9_layFits_174, B_X9_layFits_180, wi_return_, no0, no1, nz1, nz2, nz3, nz4, nz5, nz7, nz8, Classical.not_not, bz0, bz1, wi_nil, ld_0, ld_s, isIv_I, isLv_L, isRv_R, true_and, and_true, lset_0, lset_1, lset_s, avw_I, avw_L, avw_R, clr_cons, clr_nil, kst_0, kst_1, kstL_0, kstL_1, addk_I, pA_0, pA_s, pD_0, pD_s, wid_nil, wid_cons, rcv_c, putv_I, putv_L, List.length_cons, List.length_nil, List.set_cons_zero, List.set_cons_succ, not_false_eq_true, Nat.reduceMod, Nat.reduceDiv, Nat.reduceEqDiff, Nat.reduceLT, Nat.reduceLeDiff, Nat.reduceAdd, Nat.reduceSub, reduceIte, Nat.lt_irrefl, Nat.zero_ne_one, Nat.one_ne_zero, Nat.zero_add, List.nil_append, List.cons_append, Option.toList_some, Option.toList_none, forall_const, false_implies, true_implies, false_or, or_false, true_or, or_true, i_le, i_lt, i_eq, i_eq0, i_lt0, i_0le, i_0lt, i_le0, i_in1, i_cl, nI_add, pk_mul, pk_sub, i_div, i_rem, i_sh1, i_bit, i_or, i_and, i_andn, nt_le, nf_le, nt_lt, nf_lt, nt_eq, nf_eq, not_true_eq_false, and_self, and_false, false_and, eq_self, Bool.toNat_true, Bool.toNat_false, i_bool, i_bool1, Bool.false_eq_true, Bool.true_eq_false, reduceCtorEq, i_neg1, i_neg2, i_neg3, i_neg4, i_neg5, i_neg6, i_neg7, i_neg8, i_neg9, i_nega, i_negb, i_negc, i_max2, i_min2, l1, l3, l4, gI_sI, gI_sL, gI_sA, gL_sI, gL_sL, gL_sA, gA_sI, gA_sL, gA_sA, sA_sA])
          exact yes _ (m_n hm) rfl rfl rfl rfl rfl (((((fr_sI rfl).trans (fr_sI rfl)).trans (fr_sI rfl)).trans (fr_sI rfl)))
        | some b =>
          have hz : ¬ fb_ct (fB Y v) j = 0 := fun z => by rw [fsF_none.mpr z] at hfs; cases hfs
          rw [hfs] at e2 l2
          have e2 : fsF (fB Y v) (j + 1) = some b := e2
          rw [e2] at yes
          try simp (disch := omega) only [no0, no1, nz1, nz2, nz3, nz4, nz5, nz7, nz8, Classical.not_not, bz0, bz1, wi_nil, ld_0, ld_s, isIv_I, isLv_L, isRv_R, true_and, and_true, lset_0, lset_1, lset_s, avw_I, avw_L, avw_R, clr_cons, clr_nil, kst_0, kst_1, kstL_0, kstL_1, addk_I, pA_0, pA_s, pD_0, pD_s, wid_nil, wid_cons, rcv_c, putv_I, putv_L, List.length_cons, List.length_nil, List.set_cons_zero, List.set_cons_succ, not_false_eq_true, Nat.reduceMod, Nat.reduceDiv, Nat.reduceEqDiff, Nat.reduceLT, Nat.reduceLeDiff, Nat.reduceAdd, Nat.reduceSub, reduceIte, Nat.lt_irrefl, Nat.zero_ne_one, Nat.one_ne_zero, Nat.zero_add, List.nil_append, List.cons_append, Option.toList_some, Option.toList_none, forall_const, false_implies, true_implies, false_or, or_false, true_or, or_true, i_le, i_lt, i_eq, i_eq0, i_lt0, i_0le, i_0lt, i_le0, i_in1, i_cl, nI_add, pk_mul, pk_sub, i_div, i_rem, i_sh1, i_bit, i_or, i_and, i_andn, nt_le, nf_le, nt_lt, nf_lt, nt_eq, nf_eq, not_true_eq_false, and_self, and_false, false_and, eq_self, Bool.toNat_true, Bool.toNat_false, i_bool, i_bool1, Bool.false_eq_true, Bool.true_eq_false, reduceCtorEq, i_neg1, i_neg2, i_neg3, i_neg4, i_neg5, i_neg6, i_neg7, i_neg8, i_neg9, i_nega, i_negb, i_negc, i_max2, i_min2, l1, l2, l3, l4, gI_sI, gI_sL, gI_sA, gL_sI, gL_sL, gL_sA, gA_sI, gA_sL, gA_sA, sA_sA, wi_nil]
          repeat (
            first
            | refine s_X9_layFits_0 ?_
            | refine s_X9_layFits_20 ?_
            | refine s_X9_layFits_51 ?_
            | refine s_X9_layFits_83 ?_
            | refine s_X9_layFits_99 ?_
            | refine s_X9_layFits_103 ?_
            | refine s_X9_layFits_158 ?_
            | refine s_X9_layFits_165 ?_
            | refine s_X9_layFits_166 ?_
            | refine s_X9_layFits_174 ?_
            | refine s_X9_layFits_180 ?_
            simp (disch := omega) only [B_X9_layFits_0, wi_aload_n, wi_iconst, wi_putfield, pOk_8_29, cnt_8, wi_bipush, pOk_8_30, wi_getfield, fldv_8_20, fds_8_20, wi_invokevirtual, B_X9_layFits_20, pOk_8_31, pOk_8_32, wi_istore_n, B_X9_layFits_30, wi_iload_n, fldv_8_10, fds_8_10, wi_icmp_ge, fldv_8_33, fds_8_33, wi_iastore, wi_iinc, wi_goto, cnt_40, aTy_40, aLn_40, arr_40, cnt_48, aTy_48, aLn_48, arr_48, B_X9_layFits_51, B_X9_layFits_53, wi_ishl, wi_iaload, wi_iand, wi_if_ne, B_X9_layFits_83, wi_icmp_ne, fldv_8_29, fds_8_29, B_X9_layFits_99, fldv_8_30, fds_8_30, B_X9_layFits_103, wi_dup, wi_iadd, fldv_8_31, fds_8_31, fldv_8_32, fds_8_32, wi_ior, B_X9_layFits_138, wi_dup2, wi_invokestatic, B_X9_layFits_158, wi_if_eq, B_X9_layFits_165, B_X9_layFits_166, B_X9_layFits_174, B_X9_layFits_180, wi_return_, no0, no1, nz1, nz2, nz3, nz4, nz5, nz7, nz8, Classical.not_not, bz0, bz1, wi_nil, ld_0, ld_s, isIv_I, isLv_L, isRv_R, true_and, and_true, lset_0, lset_1, lset_s, avw_I, avw_L, avw_R, clr_cons, clr_nil, kst_0, kst_1, kstL_0, kstL_1, addk_I, pA_0, pA_s, pD_0, pD_s, wid_nil, wid_cons, rcv_c, putv_I, putv_L, List.length_cons, List.length_nil, List.set_cons_zero, List.set_cons_succ, not_false_eq_true, Nat.reduceMod, Nat.reduceDiv, Nat.reduceEqDiff, Nat.reduceLT, Nat.reduceLeDiff, Nat.reduceAdd, Nat.reduceSub, reduceIte, Nat.lt_irrefl, Nat.zero_ne_one, Nat.one_ne_zero, Nat.zero_add, List.nil_append, List.cons_append, Option.toList_some, Option.toList_none, forall_const, false_implies, true_implies, false_or, or_false, true_or, or_true, i_le, i_lt, i_eq, i_eq0, i_lt0, i_0le, i_0lt, i_le0, i_in1, i_cl, nI_add, pk_mul, pk_sub, i_div, i_rem, i_sh1, i_bit, i_or, i_and, i_andn, nt_le, nf_le, nt_lt, nf_lt, nt_eq, nf_eq, not_true_eq_false, and_self, and_false, false_and, eq_self, Bool.toNat_true, Bool.toNat_false, i_bool, i_bool1, Bool.false_eq_true, Bool.true_eq_false, reduceCtorEq, i_neg1, i_neg2, i_neg3, i_neg4, i_neg5, i_neg6, i_neg7, i_neg8, i_neg9, i_nega, i_negb, i_negc, i_max2, i_min2, l1, l2, l3, l4, gI_sI, gI_sL, gI_sA, gL_sI, gL_sL, gL_sA, gA_sI, gA_sL, gA_sA, sA_sA])
          exact yes _ (m_n hm) rfl rfl rfl rfl rfl (((((fr_sI rfl).trans (fr_sI rfl)).trans (fr_sI rfl)).trans (fr_sI rfl)))
      · try simp (disch := omega) only [no0, no1, nz1, nz2, nz3, nz4, nz5, nz7, nz8, Classical.not_not, bz0, bz1, wi_nil, ld_0, ld_s, isIv_I, isLv_L, isRv_R, true_and, and_true, lset_0, lset_1, lset_s, avw_I, avw_L, avw_R, clr_cons, clr_nil, kst_0, kst_1, kstL_0, kstL_1, addk_I, pA_0, pA_s, pD_0, pD_s, wid_nil, wid_cons, rcv_c, putv_I, putv_L, List.length_cons, List.length_nil, List.set_cons_zero, List.set_cons_succ, not_false_eq_true, Nat.reduceMod, Nat.reduceDiv, Nat.reduceEqDiff, Nat.reduceLT, Nat.reduceLeDiff, Nat.reduceAdd, Nat.reduceSub, reduceIte, Nat.lt_irrefl, Nat.zero_ne_one, Nat.one_ne_zero, Nat.zero_add, List.nil_append, List.cons_append, Option.toList_some, Option.toList_none, forall_const, false_implies, true_implies, false_or, or_false, true_or, or_true, i_le, i_lt, i_eq, i_eq0, i_lt0, i_0le, i_0lt, i_le0, i_in1, i_cl, nI_add, pk_mul, pk_sub, i_div, i_rem, i_sh1, i_bit, i_or, i_and, i_andn, nt_le, nf_le, nt_lt, nf_lt, nt_eq, nf_eq, not_true_eq_false, and_self, and_false, false_and, eq_self, Bool.toNat_true, Bool.toNat_false, i_bool, i_bool1, Bool.false_eq_true, Bool.true_eq_false, reduceCtorEq, i_neg1, i_neg2, i_neg3, i_neg4, i_neg5, i_neg6, i_neg7, i_neg8, i_neg9, i_nega, i_negb, i_negc, i_max2, i_min2, wi_nil]
        repeat (
          first
          | refine s_X9_layFits_0 ?_
          | refine s_X9_layFits_20 ?_
          | refine s_X9_layFits_51 ?_
          | refine s_X9_layFits_83 ?_
          | refine s_X9_layFits_99 ?_
          | refine s_X9_layFits_103 ?_
          | refine s_X9_layFits_158 ?_
          | refine s_X9_layFits_165 ?_
          | refine s_X9_layFits_166 ?_
          | refine s_X9_layFits_174 ?_
          | refine s_X9_layFits_180 ?_
          simp (disch := omega) only [B_X9_layFits_0, wi_aload_n, wi_iconst, wi_putfield, pOk_8_29, cnt_8, wi_bipush, pOk_8_30, wi_getfield, fldv_8_20, fds_8_20, wi_invokevirtual, B_X9_layFits_20, pOk_8_31, pOk_8_32, wi_istore_n, B_X9_layFits_30, wi_iload_n, fldv_8_10, fds_8_10, wi_icmp_ge, fldv_8_33, fds_8_33, wi_iastore, wi_iinc, wi_goto, cnt_40, aTy_40, aLn_40, arr_40, cnt_48, aTy_48, aLn_48, arr_48, B_X9_layFits_51, B_X9_layFits_53, wi_ishl, wi_iaload, wi_iand, wi_if_ne, B_X9_layFits_83, wi_icmp_ne, fldv_8_29, fds_8_29, B_X9_layFits_99, fldv_8_30, fds_8_30, B_X9_layFits_103, wi_dup, wi_iadd, fldv_8_31, fds_8_31, fldv_8_32, fds_8_32, wi_ior, B_X9_layFits_138, wi_dup2, wi_invokestatic, B_X9_layFits_158, wi_if_eq, B_X9_layFits_165, B_X9_layFits_166, B_X9_layFits_174, B_X9_layFits_180, wi_return_, no0, no1, nz1, nz2, nz3, nz4, nz5, nz7, nz8, Classical.not_not, bz0, bz1, wi_nil, ld_0, ld_s, isIv_I, isLv_L, isRv_R, true_and, and_true, lset_0, lset_1, lset_s, avw_I, avw_L, avw_R, clr_cons, clr_nil, kst_0, kst_1, kstL_0, kstL_1, addk_I, pA_0, pA_s, pD_0, pD_s, wid_nil, wid_cons, rcv_c, putv_I, putv_L, List.length_cons, List.length_nil, List.set_cons_zero, List.set_cons_succ, not_false_eq_true, Nat.reduceMod, Nat.reduceDiv, Nat.reduceEqDiff, Nat.reduceLT, Nat.reduceLeDiff, Nat.reduceAdd, Nat.reduceSub, reduceIte, Nat.lt_irrefl, Nat.zero_ne_one, Nat.one_ne_zero, Nat.zero_add, List.nil_append, List.cons_append, Option.toList_some, Option.toList_none, forall_const, false_implies, true_implies, false_or, or_false, true_or, or_true, i_le, i_lt, i_eq, i_eq0, i_lt0, i_0le, i_0lt, i_le0, i_in1, i_cl, nI_add, pk_mul, pk_sub, i_div, i_rem, i_sh1, i_bit, i_or, i_and, i_andn, nt_le, nf_le, nt_lt, nf_lt, nt_eq, nf_eq, not_true_eq_false, and_self, and_false, false_and, eq_self, Bool.toNat_true, Bool.toNat_false, i_bool, i_bool1, Bool.false_eq_true, Bool.true_eq_false, reduceCtorEq, i_neg1, i_neg2, i_neg3, i_neg4, i_neg5, i_neg6, i_neg7, i_neg8, i_neg9, i_nega, i_negb, i_negc, i_max2, i_min2])
        exact ih (j + 1) S (by omega) (no (by unfold fB; rw [decide_eq_false c2, Bool.and_false])) hf
    · refine s_X9_layFits_53 ?_
      simp (disch := omega) only [B_X9_layFits_53, wi_iload_n, wi_iconst, wi_aload_n, wi_getfield, fldv_8_10, fds_8_10, cnt_8, wi_ishl, wi_icmp_ge, fldv_8_20, fds_8_20, wi_iaload, wi_iand, wi_if_ne, wi_invokevirtual, cnt_40, aTy_40, aLn_40, arr_40, cnt_48, aTy_48, aLn_48, arr_48, no0, no1, nz1, nz2, nz3, nz4, nz5, nz7, nz8, Classical.not_not, bz0, bz1, wi_nil, ld_0, ld_s, isIv_I, isLv_L, isRv_R, true_and, and_true, lset_0, lset_1, lset_s, avw_I, avw_L, avw_R, clr_cons, clr_nil, kst_0, kst_1, kstL_0, kstL_1, addk_I, pA_0, pA_s, pD_0, pD_s, wid_nil, wid_cons, rcv_c, putv_I, putv_L, List.length_cons, List.length_nil, List.set_cons_zero, List.set_cons_succ, not_false_eq_true, Nat.reduceMod, Nat.reduceDiv, Nat.reduceEqDiff, Nat.reduceLT, Nat.reduceLeDiff, Nat.reduceAdd, Nat.reduceSub, reduceIte, Nat.lt_irrefl, Nat.zero_ne_one, Nat.one_ne_zero, Nat.zero_add, List.nil_append, List.cons_append, Option.toList_some, Option.toList_none, forall_const, false_implies, true_implies, false_or, or_false, true_or, or_true, i_le, i_lt, i_eq, i_eq0, i_lt0, i_0le, i_0lt, i_le0, i_in1, i_cl, nI_add, pk_mul, pk_sub, i_div, i_rem, i_sh1, i_bit, i_or, i_and, i_andn, nt_le, nf_le, nt_lt, nf_lt, nt_eq, nf_eq, not_true_eq_false, and_self, and_false, false_and, eq_self, Bool.toNat_true, Bool.toNat_false, i_bool, i_bool1, Bool.false_eq_true, Bool.true_eq_false, reduceCtorEq, i_neg1, i_neg2, i_neg3, i_neg4, i_neg5, i_neg6, i_neg7, i_neg8, i_neg9, i_nega, i_negb, i_negc, i_max2, i_min2, (m_n hm), (m_gone hm)]
      try simp (disch := omega) only [no0, no1, nz1, nz2, nz3, nz4, nz5, nz7, nz8, Classical.not_not, bz0, bz1, wi_nil, ld_0, ld_s, isIv_I, isLv_L, isRv_R, true_and, and_true, lset_0, lset_1, lset_s, avw_I, avw_L, avw_R, clr_cons, clr_nil, kst_0, kst_1, kstL_0, kstL_1, addk_I, pA_0, pA_s, pD_0, pD_s, wid_nil, wid_cons, rcv_c, putv_I, putv_L, List.length_cons, List.length_nil, List.set_cons_zero, List.set_cons_succ, not_false_eq_true, Nat.reduceMod, Nat.reduceDiv, Nat.reduceEqDiff, Nat.reduceLT, Nat.reduceLeDiff, Nat.reduceAdd, Nat.reduceSub, reduceIte, Nat.lt_irrefl, Nat.zero_ne_one, Nat.one_ne_zero, Nat.zero_add, List.nil_append, List.cons_append, Option.toList_some, Option.toList_none, forall_const, false_implies, true_implies, false_or, or_false, true_or, or_true, i_le, i_lt, i_eq, i_eq0, i_lt0, i_0le, i_0lt, i_le0, i_in1, i_cl, nI_add, pk_mul, pk_sub, i_div, i_rem, i_sh1, i_bit, i_or, i_and, i_andn, nt_le, nf_le, nt_lt, nf_lt, nt_eq, nf_eq, not_true_eq_false, and_self, and_false, false_and, eq_self, Bool.toNat_true, Bool.toNat_false, i_bool, i_bool1, Bool.false_eq_true, Bool.true_eq_false, reduceCtorEq, i_neg1, i_neg2, i_neg3, i_neg4, i_neg5, i_neg6, i_neg7, i_neg8, i_neg9, i_nega, i_negb, i_negc, i_max2, i_min2, wi_nil]
      repeat (
        first
        | refine s_X9_layFits_0 ?_
        | refine s_X9_layFits_20 ?_
        | refine s_X9_layFits_51 ?_
        | refine s_X9_layFits_83 ?_
        | refine s_X9_layFits_99 ?_
        | refine s_X9_layFits_103 ?_
        | refine s_X9_layFits_158 ?_
        | refine s_X9_layFits_165 ?_
        | refine s_X9_layFits_166 ?_
        | refine s_X9_layFits_174 ?_
        | refine s_X9_layFits_180 ?_
        simp (disch := omega) only [B_X9_layFits_0, wi_aload_n, wi_iconst, wi_putfield, pOk_8_29, cnt_8, wi_bipush, pOk_8_30, wi_getfield, fldv_8_20, fds_8_20, wi_invokevirtual, B_X9_layFits_20, pOk_8_31, pOk_8_32, wi_istore_n, B_X9_layFits_30, wi_iload_n, fldv_8_10, fds_8_10, wi_icmp_ge, fldv_8_33, fds_8_33, wi_iastore, wi_iinc, wi_goto, cnt_40, aTy_40, aLn_40, arr_40, cnt_48, aTy_48, aLn_48, arr_48, B_X9_layFits_51, B_X9_layFits_53, wi_ishl, wi_iaload, wi_iand, wi_if_ne, B_X9_layFits_83, wi_icmp_ne, fldv_8_29, fds_8_29, B_X9_layFits_99, fldv_8_30, fds_8_30, B_X9_layFits_103, wi_dup, wi_iadd, fldv_8_31, fds_8_31, fldv_8_32, fds_8_32, wi_ior, B_X9_layFits_138, wi_dup2, wi_invokestatic, B_X9_layFits_158, wi_if_eq, B_X9_layFits_165, B_X9_layFits_166, B_X9_layFits_174, B_X9_layFits_180, wi_return_, no0, no1, nz1, nz2, nz3, nz4, nz5, nz7, nz8, Classical.not_not, bz0, bz1, wi_nil, ld_0, ld_s, isIv_I, isLv_L, isRv_R, true_and, and_true, lset_0, lset_1, lset_s, avw_I, avw_L, avw_R, clr_cons, clr_nil, kst_0, kst_1, kstL_0, kstL_1, addk_I, pA_0, pA_s, pD_0, pD_s, wid_nil, wid_cons, rcv_c, putv_I, putv_L, List.length_cons, List.length_nil, List.set_cons_zero, List.set_cons_succ, not_false_eq_true, Nat.reduceMod, Nat.reduceDiv, Nat.reduceEqDiff, Nat.reduceLT, Nat.reduceLeDiff, Nat.reduceAdd, Nat.reduceSub, reduceIte, Nat.lt_irrefl, Nat.zero_ne_one, Nat.one_ne_zero, Nat.zero_add, List.nil_append, List.cons_append, Option.toList_some, Option.toList_none, forall_const, false_implies, true_implies, false_or, or_false, true_or, or_true, i_le, i_lt, i_eq, i_eq0, i_lt0, i_0le, i_0lt, i_le0, i_in1, i_cl, nI_add, pk_mul, pk_sub, i_div, i_rem, i_sh1, i_bit, i_or, i_and, i_andn, nt_le, nf_le, nt_lt, nf_lt, nt_eq, nf_eq, not_true_eq_false, and_self, and_false, false_and, eq_self, Bool.toNat_true, Bool.toNat_false, i_bool, i_bool1, Bool.false_eq_true, Bool.true_eq_false, reduceCtorEq, i_neg1, i_neg2, i_neg3, i_neg4, i_neg5, i_neg6, i_neg7, i_neg8, i_neg9, i_nega, i_negb, i_negc, i_max2, i_min2])
      refine ih (j + 1) S (by omega) (no ?_) hf
      unfold fB
      cases hb : subB Y j
      · rfl
      · exact absurd (hsb.mp hb).2 c1
theorem c_layFits {v : Nat} (hv : v < 1000) (hm : YrM S 40 Y) (ho : YOk 40 Y) (q : ∀ S2, LF S2 Y v (2 ^ Y 6 0) → Fs S S2 → P none S2) : wpM (d + 5) mX9_layFits [aR 8 0, aI (nI v)] S P := by
  have hn5 := ho.1.1
  refine x_entry (ls2 := [aR 8 0, aI (nI v), aU, aU]) (Nat.le_of_ble_eq_true rfl) pl_9 rfl (Nat.le_of_ble_eq_true rfl) ?_
  try simp (disch := omega) only [no0, no1, nz1, nz2, nz3, nz4, nz5, nz7, nz8, Classical.not_not, bz0, bz1, wi_nil, ld_0, ld_s, isIv_I, isLv_L, isRv_R, true_and, and_true, lset_0, lset_1, lset_s, avw_I, avw_L, avw_R, clr_cons, clr_nil, kst_0, kst_1, kstL_0, kstL_1, addk_I, pA_0, pA_s, pD_0, pD_s, wid_nil, wid_cons, rcv_c, putv_I, putv_L, List.length_cons, List.length_nil, List.set_cons_zero, List.set_cons_succ, not_false_eq_true, Nat.reduceMod, Nat.reduceDiv, Nat.reduceEqDiff, Nat.reduceLT, Nat.reduceLeDiff, Nat.reduceAdd, Nat.reduceSub, reduceIte, Nat.lt_irrefl, Nat.zero_ne_one, Nat.one_ne_zero, Nat.zero_add, List.nil_append, List.cons_append, Option.toList_some, Option.toList_none, forall_const, false_implies, true_implies, false_or, or_false, true_or, or_true, i_le, i_lt, i_eq, i_eq0, i_lt0, i_0le, i_0lt, i_le0, i_in1, i_cl, nI_add, pk_mul, pk_sub, i_div, i_rem, i_sh1, i_bit, i_or, i_and, i_andn, nt_le, nf_le, nt_lt, nf_lt, nt_eq, nf_eq, not_true_eq_false, and_self, and_false, false_and, eq_self, Bool.toNat_true, Bool.toNat_false, i_bool, i_bool1, Bool.false_eq_true, Bool.true_eq_false, reduceCtorEq, i_neg1, i_neg2, i_neg3, i_neg4, i_neg5, i_neg6, i_neg7, i_neg8, i_neg9, i_nega, i_negb, i_negc, i_max2, i_min2, wi_nil]
  repeat (
    first
    | refine s_X9_layFits_0 ?_
    | refine s_X9_layFits_20 ?_
    | refine s_X9_layFits_51 ?_
    | refine s_X9_layFits_83 ?_
    | refine s_X9_layFits_99 ?_
    | refine s_X9_layFits_103 ?_
    | refine s_X9_layFits_158 ?_
    | refine s_X9_layFits_165 ?_
    | refine s_X9_layFits_166 ?_
    | refine s_X9_layFits_174 ?_
    | refine s_X9_layFits_180 ?_
    simp (disch := omega) only [B_X9_layFits_0, wi_aload_n, wi_iconst, wi_putfield, pOk_8_29, cnt_8, wi_bipush, pOk_8_30, wi_getfield, fldv_8_20, fds_8_20, wi_invokevirtual, B_X9_layFits_20, pOk_8_31, pOk_8_32, wi_istore_n, B_X9_layFits_30, wi_iload_n, fldv_8_10, fds_8_10, wi_icmp_ge, fldv_8_33, fds_8_33, wi_iastore, wi_iinc, wi_goto, cnt_40, aTy_40, aLn_40, arr_40, cnt_48, aTy_48, aLn_48, arr_48, B_X9_layFits_51, B_X9_layFits_53, wi_ishl, wi_iaload, wi_iand, wi_if_ne, B_X9_layFits_83, wi_icmp_ne, fldv_8_29, fds_8_29, B_X9_layFits_99, fldv_8_30, fds_8_30, B_X9_layFits_103, wi_dup, wi_iadd, fldv_8_31, fds_8_31, fldv_8_32, fds_8_32, wi_ior, B_X9_layFits_138, wi_dup2, wi_invokestatic, B_X9_layFits_158, wi_if_eq, B_X9_layFits_165, B_X9_layFits_166, B_X9_layFits_174, B_X9_layFits_180, wi_return_, no0, no1, nz1, nz2, nz3, nz4, nz5, nz7, nz8, Classical.not_not, bz0, bz1, wi_nil, ld_0, ld_s, isIv_I, isLv_L, isRv_R, true_and, and_true, lset_0, lset_1, lset_s, avw_I, avw_L, avw_R, clr_cons, clr_nil, kst_0, kst_1, kstL_0, kstL_1, addk_I, pA_0, pA_s, pD_0, pD_s, wid_nil, wid_cons, rcv_c, putv_I, putv_L, List.length_cons, List.length_nil, List.set_cons_zero, List.set_cons_succ, not_false_eq_true, Nat.reduceMod, Nat.reduceDiv, Nat.reduceEqDiff, Nat.reduceLT, Nat.reduceLeDiff, Nat.reduceAdd, Nat.reduceSub, reduceIte, Nat.lt_irrefl, Nat.zero_ne_one, Nat.one_ne_zero, Nat.zero_add, List.nil_append, List.cons_append, Option.toList_some, Option.toList_none, forall_const, false_implies, true_implies, false_or, or_false, true_or, or_true, i_le, i_lt, i_eq, i_eq0, i_lt0, i_0le, i_0lt, i_le0, i_in1, i_cl, nI_add, pk_mul, pk_sub, i_div, i_rem, i_sh1, i_bit, i_or, i_and, i_andn, nt_le, nf_le, nt_lt, nf_lt, nt_eq, nf_eq, not_true_eq_false, and_self, and_false, false_and, eq_self, Bool.toNat_true, Bool.toNat_false, i_bool, i_bool1, Bool.false_eq_true, Bool.true_eq_false, reduceCtorEq, i_neg1, i_neg2, i_neg3, i_neg4, i_neg5, i_neg6, i_neg7, i_neg8, i_neg9, i_nega, i_negb, i_negc, i_max2, i_min2])
  refine c_there (Or.inl rfl) (show YrM (sI (sI S 8 0 29 (nI 0)) 8 0 30 (-nI 9)) 40 Y from hm) hn5 (yg_lt ho) ?_
  try simp (disch := omega) only [no0, no1, nz1, nz2, nz3, nz4, nz5, nz7, nz8, Classical.not_not, bz0, bz1, wi_nil, ld_0, ld_s, isIv_I, isLv_L, isRv_R, true_and, and_true, lset_0, lset_1, lset_s, avw_I, avw_L, avw_R, clr_cons, clr_nil, kst_0, kst_1, kstL_0, kstL_1, addk_I, pA_0, pA_s, pD_0, pD_s, wid_nil, wid_cons, rcv_c, putv_I, putv_L, List.length_cons, List.length_nil, List.set_cons_zero, List.set_cons_succ, not_false_eq_true, Nat.reduceMod, Nat.reduceDiv, Nat.reduceEqDiff, Nat.reduceLT, Nat.reduceLeDiff, Nat.reduceAdd, Nat.reduceSub, reduceIte, Nat.lt_irrefl, Nat.zero_ne_one, Nat.one_ne_zero, Nat.zero_add, List.nil_append, List.cons_append, Option.toList_some, Option.toList_none, forall_const, false_implies, true_implies, false_or, or_false, true_or, or_true, i_le, i_lt, i_eq, i_eq0, i_lt0, i_0le, i_0lt, i_le0, i_in1, i_cl, nI_add, pk_mul, pk_sub, i_div, i_rem, i_sh1, i_bit, i_or, i_and, i_andn, nt_le, nf_le, nt_lt, nf_lt, nt_eq, nf_eq, not_true_eq_false, and_self, and_false, false_and, eq_self, Bool.toNat_true, Bool.toNat_false, i_bool, i_bool1, Bool.false_eq_true, Bool.true_eq_false, reduceCtorEq, i_neg1, i_neg2, i_neg3, i_neg4, i_neg5, i_neg6, i_neg7, i_neg8, i_neg9, i_nega, i_negb, i_negc, i_max2, i_min2, wi_nil]
  repeat (
    first
    | refine s_X9_layFits_0 ?_
    | refine s_X9_layFits_20 ?_
    | refine s_X9_layFits_51 ?_
    | refine s_X9_layFits_83 ?_
    | refine s_X9_layFits_99 ?_
    | refine s_X9_layFits_103 ?_
    | refine s_X9_layFits_158 ?_
    | refine s_X9_layFits_165 ?_
    | refine s_X9_layFits_166 ?_
    | refine s_X9_layFits_174 ?_
    | refine s_X9_layFits_180 ?_
    simp (disch := omega) only [B_X9_layFits_0, wi_aload_n, wi_iconst, wi_putfield, pOk_8_29, cnt_8, wi_bipush, pOk_8_30, wi_getfield, fldv_8_20, fds_8_20, wi_invokevirtual, B_X9_layFits_20, pOk_8_31, pOk_8_32, wi_istore_n, B_X9_layFits_30, wi_iload_n, fldv_8_10, fds_8_10, wi_icmp_ge, fldv_8_33, fds_8_33, wi_iastore, wi_iinc, wi_goto, cnt_40, aTy_40, aLn_40, arr_40, cnt_48, aTy_48, aLn_48, arr_48, B_X9_layFits_51, B_X9_layFits_53, wi_ishl, wi_iaload, wi_iand, wi_if_ne, B_X9_layFits_83, wi_icmp_ne, fldv_8_29, fds_8_29, B_X9_layFits_99, fldv_8_30, fds_8_30, B_X9_layFits_103, wi_dup, wi_iadd, fldv_8_31, fds_8_31, fldv_8_32, fds_8_32, wi_ior, B_X9_layFits_138, wi_dup2, wi_invokestatic, B_X9_layFits_158, wi_if_eq, B_X9_layFits_165, B_X9_layFits_166, B_X9_layFits_174, B_X9_layFits_180, wi_return_, no0, no1, nz1, nz2, nz3, nz4, nz5, nz7, nz8, Classical.not_not, bz0, bz1, wi_nil, ld_0, ld_s, isIv_I, isLv_L, isRv_R, true_and, and_true, lset_0, lset_1, lset_s, avw_I, avw_L, avw_R, clr_cons, clr_nil, kst_0, kst_1, kstL_0, kstL_1, addk_I, pA_0, pA_s, pD_0, pD_s, wid_nil, wid_cons, rcv_c, putv_I, putv_L, List.length_cons, List.length_nil, List.set_cons_zero, List.set_cons_succ, not_false_eq_true, Nat.reduceMod, Nat.reduceDiv, Nat.reduceEqDiff, Nat.reduceLT, Nat.reduceLeDiff, Nat.reduceAdd, Nat.reduceSub, reduceIte, Nat.lt_irrefl, Nat.zero_ne_one, Nat.one_ne_zero, Nat.zero_add, List.nil_append, List.cons_append, Option.toList_some, Option.toList_none, forall_const, false_implies, true_implies, false_or, or_false, true_or, or_true, i_le, i_lt, i_eq, i_eq0, i_lt0, i_0le, i_0lt, i_le0, i_in1, i_cl, nI_add, pk_mul, pk_sub, i_div, i_rem, i_sh1, i_bit, i_or, i_and, i_andn, nt_le, nf_le, nt_lt, nf_lt, nt_eq, nf_eq, not_true_eq_false, and_self, and_false, false_and, eq_self, Bool.toNat_true, Bool.toNat_false, i_bool, i_bool1, Bool.false_eq_true, Bool.true_eq_false, reduceCtorEq, i_neg1, i_neg2, i_neg3, i_neg4, i_neg5, i_neg6, i_neg7, i_neg8, i_neg9, i_nega, i_negb, i_negc, i_max2, i_min2])
  refine l_lay0 hv hn5 (Y 6 0) 0 _ (by omega) (m_n hm) ?_
  try simp (disch := omega) only [no0, no1, nz1, nz2, nz3, nz4, nz5, nz7, nz8, Classical.not_not, bz0, bz1, wi_nil, ld_0, ld_s, isIv_I, isLv_L, isRv_R, true_and, and_true, lset_0, lset_1, lset_s, avw_I, avw_L, avw_R, clr_cons, clr_nil, kst_0, kst_1, kstL_0, kstL_1, addk_I, pA_0, pA_s, pD_0, pD_s, wid_nil, wid_cons, rcv_c, putv_I, putv_L, List.length_cons, List.length_nil, List.set_cons_zero, List.set_cons_succ, not_false_eq_true, Nat.reduceMod, Nat.reduceDiv, Nat.reduceEqDiff, Nat.reduceLT, Nat.reduceLeDiff, Nat.reduceAdd, Nat.reduceSub, reduceIte, Nat.lt_irrefl, Nat.zero_ne_one, Nat.one_ne_zero, Nat.zero_add, List.nil_append, List.cons_append, Option.toList_some, Option.toList_none, forall_const, false_implies, true_implies, false_or, or_false, true_or, or_true, i_le, i_lt, i_eq, i_eq0, i_lt0, i_0le, i_0lt, i_le0, i_in1, i_cl, nI_add, pk_mul, pk_sub, i_div, i_rem, i_sh1, i_bit, i_or, i_and, i_andn, nt_le, nf_le, nt_lt, nf_lt, nt_eq, nf_eq, not_true_eq_false, and_self, and_false, false_and, eq_self, Bool.toNat_true, Bool.toNat_false, i_bool, i_bool1, Bool.false_eq_true, Bool.true_eq_false, reduceCtorEq, i_neg1, i_neg2, i_neg3, i_neg4, i_neg5, i_neg6, i_neg7, i_neg8, i_neg9, i_nega, i_negb, i_negc, i_max2, i_min2, wi_nil]
  repeat (
    first
    | refine s_X9_layFits_0 ?_
    | refine s_X9_layFits_20 ?_
    | refine s_X9_layFits_51 ?_
    | refine s_X9_layFits_83 ?_
    | refine s_X9_layFits_99 ?_
    | refine s_X9_layFits_103 ?_
    | refine s_X9_layFits_158 ?_
    | refine s_X9_layFits_165 ?_
    | refine s_X9_layFits_166 ?_
    | refine s_X9_layFits_174 ?_
    | refine s_X9_layFits_180 ?_
    simp (disch := omega) only [B_X9_layFits_0, wi_aload_n, wi_iconst, wi_putfield, pOk_8_29, cnt_8, wi_bipush, pOk_8_30, wi_getfield, fldv_8_20, fds_8_20, wi_invokevirtual, B_X9_layFits_20, pOk_8_31, pOk_8_32, wi_istore_n, B_X9_layFits_30, wi_iload_n, fldv_8_10, fds_8_10, wi_icmp_ge, fldv_8_33, fds_8_33, wi_iastore, wi_iinc, wi_goto, cnt_40, aTy_40, aLn_40, arr_40, cnt_48, aTy_48, aLn_48, arr_48, B_X9_layFits_51, B_X9_layFits_53, wi_ishl, wi_iaload, wi_iand, wi_if_ne, B_X9_layFits_83, wi_icmp_ne, fldv_8_29, fds_8_29, B_X9_layFits_99, fldv_8_30, fds_8_30, B_X9_layFits_103, wi_dup, wi_iadd, fldv_8_31, fds_8_31, fldv_8_32, fds_8_32, wi_ior, B_X9_layFits_138, wi_dup2, wi_invokestatic, B_X9_layFits_158, wi_if_eq, B_X9_layFits_165, B_X9_layFits_166, B_X9_layFits_174, B_X9_layFits_180, wi_return_, no0, no1, nz1, nz2, nz3, nz4, nz5, nz7, nz8, Classical.not_not, bz0, bz1, wi_nil, ld_0, ld_s, isIv_I, isLv_L, isRv_R, true_and, and_true, lset_0, lset_1, lset_s, avw_I, avw_L, avw_R, clr_cons, clr_nil, kst_0, kst_1, kstL_0, kstL_1, addk_I, pA_0, pA_s, pD_0, pD_s, wid_nil, wid_cons, rcv_c, putv_I, putv_L, List.length_cons, List.length_nil, List.set_cons_zero, List.set_cons_succ, not_false_eq_true, Nat.reduceMod, Nat.reduceDiv, Nat.reduceEqDiff, Nat.reduceLT, Nat.reduceLeDiff, Nat.reduceAdd, Nat.reduceSub, reduceIte, Nat.lt_irrefl, Nat.zero_ne_one, Nat.one_ne_zero, Nat.zero_add, List.nil_append, List.cons_append, Option.toList_some, Option.toList_none, forall_const, false_implies, true_implies, false_or, or_false, true_or, or_true, i_le, i_lt, i_eq, i_eq0, i_lt0, i_0le, i_0lt, i_le0, i_in1, i_cl, nI_add, pk_mul, pk_sub, i_div, i_rem, i_sh1, i_bit, i_or, i_and, i_andn, nt_le, nf_le, nt_lt, nf_lt, nt_eq, nf_eq, not_true_eq_false, and_self, and_false, false_and, eq_self, Bool.toNat_true, Bool.toNat_false, i_bool, i_bool1, Bool.false_eq_true, Bool.true_eq_false, reduceCtorEq, i_neg1, i_neg2, i_neg3, i_neg4, i_neg5, i_neg6, i_neg7, i_neg8, i_neg9, i_nega, i_negb, i_negc, i_max2, i_min2])
  refine l_lay1 (S0 := S) hv hm ho q (2 ^ Y 6 0) 0 _ (by omega) ⟨rfl, rfl, rfl, rfl, fun i hi => ?_⟩ (((((fr_sI rfl).trans (fr_sI rfl)).trans (fr_sI rfl)).trans (fr_sI rfl)).trans (fr_sA rfl))
  rw [gA_same]
  unfold fil
  rw [if_pos ⟨Nat.zero_le i, hi⟩]
  rfl
end
