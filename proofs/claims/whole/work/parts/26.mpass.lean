-- PART 26: the reference's day, its rules, copies of a year
/-- all but the reference's row k is as it was -/
def FA (k : Nat) (S S2 : MS) : Prop := (∀ a b c, gI S2 a b c = gI S a b c) ∧ (∀ a b c, gL S2 a b c = gL S a b c) ∧ ∀ a b, ¬ (a = k ∧ b = 0) → gA S2 a b = gA S a b
theorem FA.refl {k : Nat} {S : MS} : FA k S S := ⟨fun _ _ _ => rfl, fun _ _ _ => rfl, fun _ _ _ => rfl⟩
theorem FA.trans {k : Nat} {S T U : MS} (h1 : FA k S T) (h2 : FA k T U) : FA k S U := ⟨fun a b c => (h2.1 a b c).trans (h1.1 a b c), fun a b c => (h2.2.1 a b c).trans (h1.2.1 a b c), fun a b h => (h2.2.2 a b h).trans (h1.2.2 a b h)⟩
theorem fa_sA {k : Nat} {S : MS} {r : Nat → Int32} : FA k S (sA S k 0 r) := ⟨fun _ _ _ => rfl, fun _ _ _ => rfl, fun a b h => by rw [gA_sA, if_neg h]⟩
theorem fs_fa {S S2 : MS} (h : FA 41 S S2) : Fs S S2 := ⟨fun a b c _ => h.1 a b c, fun a b c _ => h.2.1 a b c, fun a b q => h.2.2 a b (fun e => by rw [e.1, e.2] at q; cases q)⟩
theorem f3_fa {S S2 : MS} (h : FA 40 S S2) : Fr (pN 8) S S2 := ⟨fun a b c _ => h.1 a b c, fun a b c _ => h.2.1 a b c, fun a b q => h.2.2 a b (fun e => by rw [e.1, e.2] at q; cases q)⟩
theorem mb_fa {k : Nat} {S S2 : MS} {Y : Nat → Nat → Nat} (h : MB S Y) (hk : k = 40 ∨ k = 41) (f : FA k S S2) : MB S2 Y := ⟨(f.1 8 0 10).trans h.1, fun i hi => by rw [f.2.2 36 0 (by omega), f.2.2 37 0 (by omega), f.2.2 38 0 (by omega)]; exact h.2 i hi⟩
/-- the reference's day: what becomes of deed t -/
def nqv (Y : Nat → Nat → Nat) (s o f t : Nat) : Nat :=
  if f = 2 then (if s.testBit t then grw (Y 0 t) (Y 2 t) else if (Y 6 4).testBit t then Y 2 t else if o.testBit t then Y 2 t else shr (Y 0 t) (Y 2 t))
  else if f = 4 then (if s.testBit t then Y 4 t + 1 else if (Y 6 4).testBit t then Y 4 t else if o.testBit t then Y 4 t else 0)
  else if f = 5 then (if s.testBit t then Y 5 t + 1 else Y 5 t)
  else Y f t
def ppM (Y : Nat → Nat → Nat) (s o i : Nat) : Nat → Nat → Nat := fun f t => if f < 6 then (if t < i then nqv Y s o f t else Y f t) else Y f t
def psM (Y : Nat → Nat → Nat) (s o : Nat) : Nat → Nat → Nat := fun f t => if f < 6 then (if t < Y 6 0 then nqv Y s o f t else Y f t) else if f = 6 ∧ t = 3 then Y 6 3 - bct o else if f = 6 ∧ t = 1 then Y 6 1 + 1 else Y f t
theorem psM_eq {Y : Nat → Nat → Nat} {s o : Nat} (h : ∀ t, t < Y 6 0 → s.testBit t = true → (Y 6 4).testBit t = false) (ho : ofc Y s o (Y 6 0) = bct o) : psM Y s o = psY Y s o := by
  funext f t
  unfold psM
  by_cases hf : f < 6
  · rw [if_pos hf, psY_at hf]
    by_cases ht : t < Y 6 0
    · rw [if_pos ht, if_pos ht]
      unfold nqv npv
      cases hs : s.testBit t
      · simp
      · rw [h t ht hs]; simp
    · rw [if_neg ht, if_neg ht]
  · rw [if_neg hf]
    unfold psY yset
    by_cases h3 : f = 6 ∧ t = 3
    · rw [if_pos h3, if_neg (by omega), h3.1, h3.2, pp_offs, ho]
    · rw [if_neg h3]
      by_cases h1 : f = 6 ∧ t = 1
      · rw [if_pos h1, if_pos h1]
      · rw [if_neg h1, if_neg h1]
        unfold pp
        rw [if_neg hf, if_neg h3]
theorem bct_0 : bct 0 = 0 := by decide
theorem psM_0 {B : Nat} {Y : Nat → Nat → Nat} {r : Nat} (ho : YOk B Y) : psM Y (chY Y r) 0 = psY Y (chY Y r) 0 := psM_eq (fun t _ hs => ((chY_sub ho r).2 t hs).2) (by rw [ofc_0, bct_0])
section
variable {d k B : Nat} {S : MS} {Y : Nat → Nat → Nat} {P : Option AV → MS → Prop}
theorem yrm_pp0 {s o : Nat} : ppM Y s o 0 = Y := by
  funext f t
  unfold ppM
  split
  · rw [if_neg (Nat.not_lt_zero t)]
  · rfl
theorem ppM_6 {s o i t : Nat} : ppM Y s o i 6 t = Y 6 t := by unfold ppM; rw [if_neg (by decide)]
theorem ppM_c {s o i f t : Nat} (h : f = 0 ∨ f = 1 ∨ f = 3) : ppM Y s o i f t = Y f t := by
  unfold ppM nqv
  split
  · split
    · rw [if_neg (by omega), if_neg (by omega), if_neg (by omega)]
    · rfl
  · rfl
theorem ppM_lo {s o i f t : Nat} (hf : f < 6) (h : ¬ t < i) : ppM Y s o i f t = Y f t := by unfold ppM; rw [if_pos hf, if_neg h]
theorem ppM_hi {s o i f t : Nat} (hf : f < 6) (h : t < i) : ppM Y s o i f t = nqv Y s o f t := by unfold ppM; rw [if_pos hf, if_pos h]
theorem ppM_ne {s o i f t : Nat} (h : ¬ t = i) : ppM Y s o (i + 1) f t = ppM Y s o i f t := by
  unfold ppM
  split
  · by_cases a : t < i
    · rw [if_pos a, if_pos (by omega)]
    · rw [if_neg a, if_neg (by omega)]
  · rfl
theorem ppM_at {s o i f : Nat} (hf : f < 6) : ppM Y s o (i + 1) f i = nqv Y s o f i := ppM_hi hf (by omega)
/-- deed i's cells are the new ones, all else as it was -/
theorem yrm_pp {s o i : Nat} {S2 : MS} (hk : k = 40 ∨ k = 41) (h : YrM S k (ppM Y s o i)) (hf : FA k S S2) (h1 : gA S2 k 0 (4 + i) = nI (nqv Y s o 2 i)) (h2 : gA S2 k 0 (9 + i) = nI (nqv Y s o 4 i)) (h3 : gA S2 k 0 (14 + i) = nI (nqv Y s o 5 i)) (h4 : ∀ q, ¬ q = 4 + i → ¬ q = 9 + i → ¬ q = 14 + i → gA S2 k 0 q = gA S k 0 q) (hn : Y 6 0 ≤ 5) (hi : i < Y 6 0) : YrM S2 k (ppM Y s o (i + 1)) := by
  have hb := mb_fa h.1 hk hf
  obtain ⟨⟨a0, a1, a2, a3⟩, a4⟩ := h.2
  refine ⟨⟨hb.1, fun t ht => ?_⟩, ⟨?_, ?_, ?_, ?_⟩, fun t ht => ?_⟩
  · have := hb.2 t ht
    rw [ppM_c (by omega), ppM_c (by omega), ppM_c (by omega)] at this ⊢
    exact this
  · rw [h4 0 (by omega) (by omega) (by omega), a0, ppM_6, ppM_6]
  · rw [h4 (0 + 1) (by omega) (by omega) (by omega), a1, ppM_6, ppM_6]
  · rw [h4 (0 + 2) (by omega) (by omega) (by omega), a2, ppM_6, ppM_6]
  · rw [h4 (0 + 3) (by omega) (by omega) (by omega), a3, ppM_6, ppM_6]
  · rw [ppM_6] at ht
    by_cases e : t = i
    · subst e
      rw [ppM_at (by decide), ppM_at (by decide), ppM_at (by decide), Nat.zero_add, Nat.zero_add, Nat.zero_add]
      exact ⟨h1, h2, h3⟩
    · rw [ppM_ne e, ppM_ne e, ppM_ne e, h4 _ (by omega) (by omega) (by omega), h4 _ (by omega) (by omega) (by omega), h4 _ (by omega) (by omega) (by omega)]
      exact a4 t (by rw [ppM_6]; exact ht)
theorem psM_6 {s o t : Nat} (h : ¬ t = 3) (h1 : ¬ t = 1) : psM Y s o 6 t = Y 6 t := by unfold psM; rw [if_neg (by decide), if_neg (fun q => h q.2), if_neg (fun q => h1 q.2)]
theorem psM_off {s o : Nat} : psM Y s o 6 3 = Y 6 3 - bct o := by unfold psM; rw [if_neg (by decide), if_pos ⟨rfl, rfl⟩]
theorem psM_day {s o : Nat} : psM Y s o 6 1 = Y 6 1 + 1 := by unfold psM; rw [if_neg (by decide), if_neg (by decide), if_pos ⟨rfl, rfl⟩]
theorem psM_pp {s o f t : Nat} (hf : f < 6) (ht : t < Y 6 0) : psM Y s o f t = ppM Y s o (Y 6 0) f t := by unfold psM ppM; rw [if_pos hf, if_pos hf]
theorem psM_c {s o f t : Nat} (h : f = 0 ∨ f = 1 ∨ f = 3) : psM Y s o f t = Y f t := by
  unfold psM nqv
  rw [if_pos (by omega)]
  split
  · rw [if_neg (by omega), if_neg (by omega), if_neg (by omega)]
  · rfl
theorem yrm_ps {s o : Nat} (hk : k = 40 ∨ k = 41) (h : YrM S k (ppM Y s o (Y 6 0))) : YrM (sA S k 0 (upd (upd (gA S k 0) 2 (nI (Y 6 3 - bct o))) 0 (nI (Y 6 1 + 1)))) k (psM Y s o) := by
  have hb := mb_fa h.1 hk (fa_sA (r := upd (upd (gA S k 0) 2 (nI (Y 6 3 - bct o))) 0 (nI (Y 6 1 + 1))))
  obtain ⟨⟨a0, a1, a2, a3⟩, a4⟩ := h.2
  rw [ppM_6] at a1 a3
  refine ⟨⟨?_, fun t ht => ?_⟩, ⟨?_, ?_, ?_, ?_⟩, fun t ht => ?_⟩
  · rw [psM_6 (by decide) (by decide), ← ppM_6 (Y := Y) (s := s) (o := o) (i := Y 6 0)]
    exact hb.1
  · rw [psM_6 (by decide) (by decide)] at ht
    have := hb.2 t (by rw [ppM_6]; exact ht)
    rw [ppM_c (by omega), ppM_c (by omega), ppM_c (by omega)] at this
    rw [psM_c (by omega), psM_c (by omega), psM_c (by omega)]
    exact this
  · rw [gA_same, psM_day, pk_us]
  · rw [gA_same, psM_6 (by decide) (by decide), pk_un (by decide), pk_un (by decide)]
    exact a1
  · rw [gA_same, psM_off, pk_un (by decide), pk_us]
  · rw [gA_same, psM_6 (by decide) (by decide), pk_un (by decide), pk_un (by decide)]
    exact a3
  · rw [psM_6 (by decide) (by decide)] at ht
    rw [gA_same, psM_pp (by decide) ht, psM_pp (by decide) ht, psM_pp (by decide) ht]
    have := a4 t (by rw [ppM_6]; exact ht)
    rw [pk_un (by omega), pk_un (by omega), pk_un (by omega), pk_un (by omega), pk_un (by omega), pk_un (by omega)]
    exact this
theorem l_passes {s o : Nat} {S0 : MS} (hk : k = 40 ∨ k = 41) (ho : YOk B Y) (hB : B < 900) (hs : s < 32) (ho32 : o < 32) (hof : bct o ≤ Y 6 3) (q : ∀ S2, YrM S2 k (psM Y s o) → FA k S0 S2 → P none S2) : ∀ (m i : Nat) (S : MS), i + m = Y 6 0 → YrM S k (ppM Y s o i) → FA k S0 S → wpX (d + 3) mX9_passes 3 [aR 8 0, aR k 0, aI (nI s), aI (nI o), aI (nI i)] [] S P := by
  obtain ⟨kc, kT, kL, kK, k9, kA⟩ := ofk hk
  have hn5 := ho.1.1
  have hg := yg_lt ho
  have hb6 := bct_lt (s := o) (by omega)
  intro m
  induction m with
  | zero =>
    intro i S hi hm hf
    have e : i = Y 6 0 := by omega
    subst e
    have en := m_n hm
    have eo := m_offs hm
    have ed := m_day hm
    rw [ppM_6] at en eo ed
    have hy3 := ho.1.2.2.2.1
    have hy1 := ho.1.2.1
    refine s_X9_passes_3 ?_
    simp (disch := omega) only [B_X9_passes_3, wi_iload, wi_aload_n, wi_getfield, fldv_8_10, fds_8_10, cnt_8, wi_icmp_ge, wi_iload_n, wi_invokestatic, no0, no1, nz1, nz2, nz3, nz4, nz5, nz7, nz8, Classical.not_not, bz0, bz1, wi_nil, ld_0, ld_s, isIv_I, isLv_L, isRv_R, true_and, and_true, lset_0, lset_1, lset_s, avw_I, avw_L, avw_R, clr_cons, clr_nil, kst_0, kst_1, kstL_0, kstL_1, addk_I, pA_0, pA_s, pD_0, pD_s, wid_nil, wid_cons, rcv_c, putv_I, putv_L, List.length_cons, List.length_nil, List.set_cons_zero, List.set_cons_succ, not_false_eq_true, Nat.reduceMod, Nat.reduceDiv, Nat.reduceEqDiff, Nat.reduceLT, Nat.reduceLeDiff, Nat.reduceAdd, Nat.reduceSub, reduceIte, Nat.lt_irrefl, Nat.zero_ne_one, Nat.one_ne_zero, Nat.zero_add, List.nil_append, List.cons_append, Option.toList_some, Option.toList_none, forall_const, false_implies, true_implies, false_or, or_false, true_or, or_true, i_le, i_lt, i_eq, i_eq0, i_lt0, i_0le, i_0lt, i_le0, i_in1, i_cl, nI_add, pk_mul, pk_sub, i_div, i_rem, i_sh1, i_bit, i_or, i_and, i_andn, nt_le, nf_le, nt_lt, nf_lt, nt_eq, nf_eq, not_true_eq_false, and_self, and_false, false_and, eq_self, Bool.toNat_true, Bool.toNat_false, i_bool, i_bool1, Bool.false_eq_true, Bool.true_eq_false, reduceCtorEq, i_neg1, i_neg2, i_neg3, i_neg4, i_neg5, i_neg6, i_neg7, i_neg8, i_neg9, i_nega, i_negb, i_negc, i_max2, i_min2, en]
    try simp (disch := omega) only [no0, no1, nz1, nz2, nz3, nz4, nz5, nz7, nz8, Classical.not_not, bz0, bz1, wi_nil, ld_0, ld_s, isIv_I, isLv_L, isRv_R, true_and, and_true, lset_0, lset_1, lset_s, avw_I, avw_L, avw_R, clr_cons, clr_nil, kst_0, kst_1, kstL_0, kstL_1, addk_I, pA_0, pA_s, pD_0, pD_s, wid_nil, wid_cons, rcv_c, putv_I, putv_L, List.length_cons, List.length_nil, List.set_cons_zero, List.set_cons_succ, not_false_eq_true, Nat.reduceMod, Nat.reduceDiv, Nat.reduceEqDiff, Nat.reduceLT, Nat.reduceLeDiff, Nat.reduceAdd, Nat.reduceSub, reduceIte, Nat.lt_irrefl, Nat.zero_ne_one, Nat.one_ne_zero, Nat.zero_add, List.nil_append, List.cons_append, Option.toList_some, Option.toList_none, forall_const, false_implies, true_implies, false_or, or_false, true_or, or_true, i_le, i_lt, i_eq, i_eq0, i_lt0, i_0le, i_0lt, i_le0, i_in1, i_cl, nI_add, pk_mul, pk_sub, i_div, i_rem, i_sh1, i_bit, i_or, i_and, i_andn, nt_le, nf_le, nt_lt, nf_lt, nt_eq, nf_eq, not_true_eq_false, and_self, and_false, false_and, eq_self, Bool.toNat_true, Bool.toNat_false, i_bool, i_bool1, Bool.false_eq_true, Bool.true_eq_false, reduceCtorEq, i_neg1, i_neg2, i_neg3, i_neg4, i_neg5, i_neg6, i_neg7, i_neg8, i_neg9, i_nega, i_negb, i_negc, i_max2, i_min2, eo, ed, kc, kT, kL, kK, k9, kA, wi_nil]
    repeat (
      first
      | refine s_X9_passes_0 ?_
      | refine s_X9_passes_18 ?_
      | refine s_X9_passes_33 ?_
      | refine s_X9_passes_59 ?_
      | refine s_X9_passes_64 ?_
      | refine s_X9_passes_69 ?_
      | refine s_X9_passes_78 ?_
      | refine s_X9_passes_93 ?_
      | refine s_X9_passes_102 ?_
      | refine s_X9_passes_108 ?_
      | refine s_X9_passes_116 ?_
      simp (disch := omega) only [B_X9_passes_0, wi_iconst, wi_istore, B_X9_passes_3, wi_iload, wi_aload_n, wi_getfield, fldv_8_10, fds_8_10, cnt_8, wi_icmp_ge, wi_iload_n, wi_invokestatic, B_X9_passes_18, wi_if_eq, wi_iadd, wi_invokevirtual, B_X9_passes_33, wi_iastore, wi_bipush, wi_dup2, wi_iaload, wi_goto, B_X9_passes_59, B_X9_passes_64, B_X9_passes_69, B_X9_passes_78, wi_if_ne, B_X9_passes_93, B_X9_passes_102, wi_iinc, B_X9_passes_108, B_X9_passes_116, wi_isub, wi_return_, no0, no1, nz1, nz2, nz3, nz4, nz5, nz7, nz8, Classical.not_not, bz0, bz1, wi_nil, ld_0, ld_s, isIv_I, isLv_L, isRv_R, true_and, and_true, lset_0, lset_1, lset_s, avw_I, avw_L, avw_R, clr_cons, clr_nil, kst_0, kst_1, kstL_0, kstL_1, addk_I, pA_0, pA_s, pD_0, pD_s, wid_nil, wid_cons, rcv_c, putv_I, putv_L, List.length_cons, List.length_nil, List.set_cons_zero, List.set_cons_succ, not_false_eq_true, Nat.reduceMod, Nat.reduceDiv, Nat.reduceEqDiff, Nat.reduceLT, Nat.reduceLeDiff, Nat.reduceAdd, Nat.reduceSub, reduceIte, Nat.lt_irrefl, Nat.zero_ne_one, Nat.one_ne_zero, Nat.zero_add, List.nil_append, List.cons_append, Option.toList_some, Option.toList_none, forall_const, false_implies, true_implies, false_or, or_false, true_or, or_true, i_le, i_lt, i_eq, i_eq0, i_lt0, i_0le, i_0lt, i_le0, i_in1, i_cl, nI_add, pk_mul, pk_sub, i_div, i_rem, i_sh1, i_bit, i_or, i_and, i_andn, nt_le, nf_le, nt_lt, nf_lt, nt_eq, nf_eq, not_true_eq_false, and_self, and_false, false_and, eq_self, Bool.toNat_true, Bool.toNat_false, i_bool, i_bool1, Bool.false_eq_true, Bool.true_eq_false, reduceCtorEq, i_neg1, i_neg2, i_neg3, i_neg4, i_neg5, i_neg6, i_neg7, i_neg8, i_neg9, i_nega, i_negb, i_negc, i_max2, i_min2, eo, ed, kc, kT, kL, kK, k9, kA])
    refine c_bits (by omega) ?_
    try simp (disch := omega) only [no0, no1, nz1, nz2, nz3, nz4, nz5, nz7, nz8, Classical.not_not, bz0, bz1, wi_nil, ld_0, ld_s, isIv_I, isLv_L, isRv_R, true_and, and_true, lset_0, lset_1, lset_s, avw_I, avw_L, avw_R, clr_cons, clr_nil, kst_0, kst_1, kstL_0, kstL_1, addk_I, pA_0, pA_s, pD_0, pD_s, wid_nil, wid_cons, rcv_c, putv_I, putv_L, List.length_cons, List.length_nil, List.set_cons_zero, List.set_cons_succ, not_false_eq_true, Nat.reduceMod, Nat.reduceDiv, Nat.reduceEqDiff, Nat.reduceLT, Nat.reduceLeDiff, Nat.reduceAdd, Nat.reduceSub, reduceIte, Nat.lt_irrefl, Nat.zero_ne_one, Nat.one_ne_zero, Nat.zero_add, List.nil_append, List.cons_append, Option.toList_some, Option.toList_none, forall_const, false_implies, true_implies, false_or, or_false, true_or, or_true, i_le, i_lt, i_eq, i_eq0, i_lt0, i_0le, i_0lt, i_le0, i_in1, i_cl, nI_add, pk_mul, pk_sub, i_div, i_rem, i_sh1, i_bit, i_or, i_and, i_andn, nt_le, nf_le, nt_lt, nf_lt, nt_eq, nf_eq, not_true_eq_false, and_self, and_false, false_and, eq_self, Bool.toNat_true, Bool.toNat_false, i_bool, i_bool1, Bool.false_eq_true, Bool.true_eq_false, reduceCtorEq, i_neg1, i_neg2, i_neg3, i_neg4, i_neg5, i_neg6, i_neg7, i_neg8, i_neg9, i_nega, i_negb, i_negc, i_max2, i_min2, eo, ed, kc, kT, kL, kK, k9, kA, gI_sI, gI_sL, gI_sA, gL_sI, gL_sL, gL_sA, gA_sI, gA_sL, gA_sA, sA_sA, pk_us, pk_un, wi_nil]
    repeat (
      first
      | refine s_X9_passes_0 ?_
      | refine s_X9_passes_18 ?_
      | refine s_X9_passes_33 ?_
      | refine s_X9_passes_59 ?_
      | refine s_X9_passes_64 ?_
      | refine s_X9_passes_69 ?_
      | refine s_X9_passes_78 ?_
      | refine s_X9_passes_93 ?_
      | refine s_X9_passes_102 ?_
      | refine s_X9_passes_108 ?_
      | refine s_X9_passes_116 ?_
      simp (disch := omega) only [B_X9_passes_0, wi_iconst, wi_istore, B_X9_passes_3, wi_iload, wi_aload_n, wi_getfield, fldv_8_10, fds_8_10, cnt_8, wi_icmp_ge, wi_iload_n, wi_invokestatic, B_X9_passes_18, wi_if_eq, wi_iadd, wi_invokevirtual, B_X9_passes_33, wi_iastore, wi_bipush, wi_dup2, wi_iaload, wi_goto, B_X9_passes_59, B_X9_passes_64, B_X9_passes_69, B_X9_passes_78, wi_if_ne, B_X9_passes_93, B_X9_passes_102, wi_iinc, B_X9_passes_108, B_X9_passes_116, wi_isub, wi_return_, no0, no1, nz1, nz2, nz3, nz4, nz5, nz7, nz8, Classical.not_not, bz0, bz1, wi_nil, ld_0, ld_s, isIv_I, isLv_L, isRv_R, true_and, and_true, lset_0, lset_1, lset_s, avw_I, avw_L, avw_R, clr_cons, clr_nil, kst_0, kst_1, kstL_0, kstL_1, addk_I, pA_0, pA_s, pD_0, pD_s, wid_nil, wid_cons, rcv_c, putv_I, putv_L, List.length_cons, List.length_nil, List.set_cons_zero, List.set_cons_succ, not_false_eq_true, Nat.reduceMod, Nat.reduceDiv, Nat.reduceEqDiff, Nat.reduceLT, Nat.reduceLeDiff, Nat.reduceAdd, Nat.reduceSub, reduceIte, Nat.lt_irrefl, Nat.zero_ne_one, Nat.one_ne_zero, Nat.zero_add, List.nil_append, List.cons_append, Option.toList_some, Option.toList_none, forall_const, false_implies, true_implies, false_or, or_false, true_or, or_true, i_le, i_lt, i_eq, i_eq0, i_lt0, i_0le, i_0lt, i_le0, i_in1, i_cl, nI_add, pk_mul, pk_sub, i_div, i_rem, i_sh1, i_bit, i_or, i_and, i_andn, nt_le, nf_le, nt_lt, nf_lt, nt_eq, nf_eq, not_true_eq_false, and_self, and_false, false_and, eq_self, Bool.toNat_true, Bool.toNat_false, i_bool, i_bool1, Bool.false_eq_true, Bool.true_eq_false, reduceCtorEq, i_neg1, i_neg2, i_neg3, i_neg4, i_neg5, i_neg6, i_neg7, i_neg8, i_neg9, i_nega, i_negb, i_negc, i_max2, i_min2, eo, ed, kc, kT, kL, kK, k9, kA, gI_sI, gI_sL, gI_sA, gL_sI, gL_sL, gL_sA, gA_sI, gA_sL, gA_sA, sA_sA, pk_us, pk_un])
    exact q _ (yrm_ps hk hm) (hf.trans fa_sA)
  | succ m ih =>
    intro i S hi hm hf
    have hin : i < Y 6 0 := by omega
    have hi6 : i < ppM Y s o i 6 0 := by rw [ppM_6]; exact hin
    have hi5 : i < 5 := by omega
    have hb := ho.2 i hin
    have z0 : ppM Y s o i 0 i = Y 0 i := ppM_c (by omega)
    have z2 : ppM Y s o i 2 i = Y 2 i := ppM_lo (by decide) (Nat.lt_irrefl i)
    have z4 : ppM Y s o i 4 i = Y 4 i := ppM_lo (by decide) (Nat.lt_irrefl i)
    have z5 : ppM Y s o i 5 i = Y 5 i := ppM_lo (by decide) (Nat.lt_irrefl i)
    have en := m_n hm
    have eh := m_hab hm hi6
    have ec := m_ch hm hi6
    have et := m_times hm hi6
    rw [ppM_6] at en
    rw [z2] at eh
    rw [z4] at ec
    rw [z5] at et
    refine s_X9_passes_3 ?_
    simp (disch := omega) only [B_X9_passes_3, wi_iload, wi_aload_n, wi_getfield, fldv_8_10, fds_8_10, cnt_8, wi_icmp_ge, wi_iload_n, wi_invokestatic, no0, no1, nz1, nz2, nz3, nz4, nz5, nz7, nz8, Classical.not_not, bz0, bz1, wi_nil, ld_0, ld_s, isIv_I, isLv_L, isRv_R, true_and, and_true, lset_0, lset_1, lset_s, avw_I, avw_L, avw_R, clr_cons, clr_nil, kst_0, kst_1, kstL_0, kstL_1, addk_I, pA_0, pA_s, pD_0, pD_s, wid_nil, wid_cons, rcv_c, putv_I, putv_L, List.length_cons, List.length_nil, List.set_cons_zero, List.set_cons_succ, not_false_eq_true, Nat.reduceMod, Nat.reduceDiv, Nat.reduceEqDiff, Nat.reduceLT, Nat.reduceLeDiff, Nat.reduceAdd, Nat.reduceSub, reduceIte, Nat.lt_irrefl, Nat.zero_ne_one, Nat.one_ne_zero, Nat.zero_add, List.nil_append, List.cons_append, Option.toList_some, Option.toList_none, forall_const, false_implies, true_implies, false_or, or_false, true_or, or_true, i_le, i_lt, i_eq, i_eq0, i_lt0, i_0le, i_0lt, i_le0, i_in1, i_cl, nI_add, pk_mul, pk_sub, i_div, i_rem, i_sh1, i_bit, i_or, i_and, i_andn, nt_le, nf_le, nt_lt, nf_lt, nt_eq, nf_eq, not_true_eq_false, and_self, and_false, false_and, eq_self, Bool.toNat_true, Bool.toNat_false, i_bool, i_bool1, Bool.false_eq_true, Bool.true_eq_false, reduceCtorEq, i_neg1, i_neg2, i_neg3, i_neg4, i_neg5, i_neg6, i_neg7, i_neg8, i_neg9, i_nega, i_negb, i_negc, i_max2, i_min2, en]
    refine c_has (by omega) (by omega) ?_
    cases hsb : s.testBit i
    · have same : nqv Y s o 2 i = Y 2 i → nqv Y s o 4 i = Y 4 i → nqv Y s o 5 i = Y 5 i → wpX (d + 3) mX9_passes 102 [aR 8 0, aR k 0, aI (nI s), aI (nI o), aI (nI i)] [] S P := by
        intro w2 w4 w5
        try simp (disch := omega) only [no0, no1, nz1, nz2, nz3, nz4, nz5, nz7, nz8, Classical.not_not, bz0, bz1, wi_nil, ld_0, ld_s, isIv_I, isLv_L, isRv_R, true_and, and_true, lset_0, lset_1, lset_s, avw_I, avw_L, avw_R, clr_cons, clr_nil, kst_0, kst_1, kstL_0, kstL_1, addk_I, pA_0, pA_s, pD_0, pD_s, wid_nil, wid_cons, rcv_c, putv_I, putv_L, List.length_cons, List.length_nil, List.set_cons_zero, List.set_cons_succ, not_false_eq_true, Nat.reduceMod, Nat.reduceDiv, Nat.reduceEqDiff, Nat.reduceLT, Nat.reduceLeDiff, Nat.reduceAdd, Nat.reduceSub, reduceIte, Nat.lt_irrefl, Nat.zero_ne_one, Nat.one_ne_zero, Nat.zero_add, List.nil_append, List.cons_append, Option.toList_some, Option.toList_none, forall_const, false_implies, true_implies, false_or, or_false, true_or, or_true, i_le, i_lt, i_eq, i_eq0, i_lt0, i_0le, i_0lt, i_le0, i_in1, i_cl, nI_add, pk_mul, pk_sub, i_div, i_rem, i_sh1, i_bit, i_or, i_and, i_andn, nt_le, nf_le, nt_lt, nf_lt, nt_eq, nf_eq, not_true_eq_false, and_self, and_false, false_and, eq_self, Bool.toNat_true, Bool.toNat_false, i_bool, i_bool1, Bool.false_eq_true, Bool.true_eq_false, reduceCtorEq, i_neg1, i_neg2, i_neg3, i_neg4, i_neg5, i_neg6, i_neg7, i_neg8, i_neg9, i_nega, i_negb, i_negc, i_max2, i_min2, wi_nil]
        repeat (
          first
          | refine s_X9_passes_0 ?_
          | refine s_X9_passes_18 ?_
          | refine s_X9_passes_33 ?_
          | refine s_X9_passes_59 ?_
          | refine s_X9_passes_64 ?_
          | refine s_X9_passes_69 ?_
          | refine s_X9_passes_78 ?_
          | refine s_X9_passes_93 ?_
          | refine s_X9_passes_102 ?_
          | refine s_X9_passes_108 ?_
          | refine s_X9_passes_116 ?_
          simp (disch := omega) only [B_X9_passes_0, wi_iconst, wi_istore, B_X9_passes_3, wi_iload, wi_aload_n, wi_getfield, fldv_8_10, fds_8_10, cnt_8, wi_icmp_ge, wi_iload_n, wi_invokestatic, B_X9_passes_18, wi_if_eq, wi_iadd, wi_invokevirtual, B_X9_passes_33, wi_iastore, wi_bipush, wi_dup2, wi_iaload, wi_goto, B_X9_passes_59, B_X9_passes_64, B_X9_passes_69, B_X9_passes_78, wi_if_ne, B_X9_passes_93, B_X9_passes_102, wi_iinc, B_X9_passes_108, B_X9_passes_116, wi_isub, wi_return_, no0, no1, nz1, nz2, nz3, nz4, nz5, nz7, nz8, Classical.not_not, bz0, bz1, wi_nil, ld_0, ld_s, isIv_I, isLv_L, isRv_R, true_and, and_true, lset_0, lset_1, lset_s, avw_I, avw_L, avw_R, clr_cons, clr_nil, kst_0, kst_1, kstL_0, kstL_1, addk_I, pA_0, pA_s, pD_0, pD_s, wid_nil, wid_cons, rcv_c, putv_I, putv_L, List.length_cons, List.length_nil, List.set_cons_zero, List.set_cons_succ, not_false_eq_true, Nat.reduceMod, Nat.reduceDiv, Nat.reduceEqDiff, Nat.reduceLT, Nat.reduceLeDiff, Nat.reduceAdd, Nat.reduceSub, reduceIte, Nat.lt_irrefl, Nat.zero_ne_one, Nat.one_ne_zero, Nat.zero_add, List.nil_append, List.cons_append, Option.toList_some, Option.toList_none, forall_const, false_implies, true_implies, false_or, or_false, true_or, or_true, i_le, i_lt, i_eq, i_eq0, i_lt0, i_0le, i_0lt, i_le0, i_in1, i_cl, nI_add, pk_mul, pk_sub, i_div, i_rem, i_sh1, i_bit, i_or, i_and, i_andn, nt_le, nf_le, nt_lt, nf_lt, nt_eq, nf_eq, not_true_eq_false, and_self, and_false, false_and, eq_self, Bool.toNat_true, Bool.toNat_false, i_bool, i_bool1, Bool.false_eq_true, Bool.true_eq_false, reduceCtorEq, i_neg1, i_neg2, i_neg3, i_neg4, i_neg5, i_neg6, i_neg7, i_neg8, i_neg9, i_nega, i_negb, i_negc, i_max2, i_min2])
        exact ih (i + 1) S (by omega) (yrm_pp hk hm FA.refl (by rw [w2]; exact eh) (by rw [w4]; exact ec) (by rw [w5]; exact et) (fun _ _ _ _ => rfl) hn5 hin) hf
      have ey : yop (ppM Y s o i) = yop Y := by unfold yop; rw [ppM_6, ppM_6]
      have hyl := yop_lt (Y := Y) hn5
      have hyb := yop_bit ho hi5
      try simp (disch := omega) only [no0, no1, nz1, nz2, nz3, nz4, nz5, nz7, nz8, Classical.not_not, bz0, bz1, wi_nil, ld_0, ld_s, isIv_I, isLv_L, isRv_R, true_and, and_true, lset_0, lset_1, lset_s, avw_I, avw_L, avw_R, clr_cons, clr_nil, kst_0, kst_1, kstL_0, kstL_1, addk_I, pA_0, pA_s, pD_0, pD_s, wid_nil, wid_cons, rcv_c, putv_I, putv_L, List.length_cons, List.length_nil, List.set_cons_zero, List.set_cons_succ, not_false_eq_true, Nat.reduceMod, Nat.reduceDiv, Nat.reduceEqDiff, Nat.reduceLT, Nat.reduceLeDiff, Nat.reduceAdd, Nat.reduceSub, reduceIte, Nat.lt_irrefl, Nat.zero_ne_one, Nat.one_ne_zero, Nat.zero_add, List.nil_append, List.cons_append, Option.toList_some, Option.toList_none, forall_const, false_implies, true_implies, false_or, or_false, true_or, or_true, i_le, i_lt, i_eq, i_eq0, i_lt0, i_0le, i_0lt, i_le0, i_in1, i_cl, nI_add, pk_mul, pk_sub, i_div, i_rem, i_sh1, i_bit, i_or, i_and, i_andn, nt_le, nf_le, nt_lt, nf_lt, nt_eq, nf_eq, not_true_eq_false, and_self, and_false, false_and, eq_self, Bool.toNat_true, Bool.toNat_false, i_bool, i_bool1, Bool.false_eq_true, Bool.true_eq_false, reduceCtorEq, i_neg1, i_neg2, i_neg3, i_neg4, i_neg5, i_neg6, i_neg7, i_neg8, i_neg9, i_nega, i_negb, i_negc, i_max2, i_min2, hsb, k9, wi_nil]
      repeat (
        first
        | refine s_X9_passes_0 ?_
        | refine s_X9_passes_18 ?_
        | refine s_X9_passes_33 ?_
        | refine s_X9_passes_59 ?_
        | refine s_X9_passes_64 ?_
        | refine s_X9_passes_69 ?_
        | refine s_X9_passes_78 ?_
        | refine s_X9_passes_93 ?_
        | refine s_X9_passes_102 ?_
        | refine s_X9_passes_108 ?_
        | refine s_X9_passes_116 ?_
        simp (disch := omega) only [B_X9_passes_0, wi_iconst, wi_istore, B_X9_passes_3, wi_iload, wi_aload_n, wi_getfield, fldv_8_10, fds_8_10, cnt_8, wi_icmp_ge, wi_iload_n, wi_invokestatic, B_X9_passes_18, wi_if_eq, wi_iadd, wi_invokevirtual, B_X9_passes_33, wi_iastore, wi_bipush, wi_dup2, wi_iaload, wi_goto, B_X9_passes_59, B_X9_passes_64, B_X9_passes_69, B_X9_passes_78, wi_if_ne, B_X9_passes_93, B_X9_passes_102, wi_iinc, B_X9_passes_108, B_X9_passes_116, wi_isub, wi_return_, no0, no1, nz1, nz2, nz3, nz4, nz5, nz7, nz8, Classical.not_not, bz0, bz1, wi_nil, ld_0, ld_s, isIv_I, isLv_L, isRv_R, true_and, and_true, lset_0, lset_1, lset_s, avw_I, avw_L, avw_R, clr_cons, clr_nil, kst_0, kst_1, kstL_0, kstL_1, addk_I, pA_0, pA_s, pD_0, pD_s, wid_nil, wid_cons, rcv_c, putv_I, putv_L, List.length_cons, List.length_nil, List.set_cons_zero, List.set_cons_succ, not_false_eq_true, Nat.reduceMod, Nat.reduceDiv, Nat.reduceEqDiff, Nat.reduceLT, Nat.reduceLeDiff, Nat.reduceAdd, Nat.reduceSub, reduceIte, Nat.lt_irrefl, Nat.zero_ne_one, Nat.one_ne_zero, Nat.zero_add, List.nil_append, List.cons_append, Option.toList_some, Option.toList_none, forall_const, false_implies, true_implies, false_or, or_false, true_or, or_true, i_le, i_lt, i_eq, i_eq0, i_lt0, i_0le, i_0lt, i_le0, i_in1, i_cl, nI_add, pk_mul, pk_sub, i_div, i_rem, i_sh1, i_bit, i_or, i_and, i_andn, nt_le, nf_le, nt_lt, nf_lt, nt_eq, nf_eq, not_true_eq_false, and_self, and_false, false_and, eq_self, Bool.toNat_true, Bool.toNat_false, i_bool, i_bool1, Bool.false_eq_true, Bool.true_eq_false, reduceCtorEq, i_neg1, i_neg2, i_neg3, i_neg4, i_neg5, i_neg6, i_neg7, i_neg8, i_neg9, i_nega, i_negb, i_negc, i_max2, i_min2, hsb, k9])
      refine c_there hk hm (by rw [ppM_6]; exact hn5) (by rw [ppM_6]; exact hg) ?_
      rw [ey]
      try simp (disch := omega) only [no0, no1, nz1, nz2, nz3, nz4, nz5, nz7, nz8, Classical.not_not, bz0, bz1, wi_nil, ld_0, ld_s, isIv_I, isLv_L, isRv_R, true_and, and_true, lset_0, lset_1, lset_s, avw_I, avw_L, avw_R, clr_cons, clr_nil, kst_0, kst_1, kstL_0, kstL_1, addk_I, pA_0, pA_s, pD_0, pD_s, wid_nil, wid_cons, rcv_c, putv_I, putv_L, List.length_cons, List.length_nil, List.set_cons_zero, List.set_cons_succ, not_false_eq_true, Nat.reduceMod, Nat.reduceDiv, Nat.reduceEqDiff, Nat.reduceLT, Nat.reduceLeDiff, Nat.reduceAdd, Nat.reduceSub, reduceIte, Nat.lt_irrefl, Nat.zero_ne_one, Nat.one_ne_zero, Nat.zero_add, List.nil_append, List.cons_append, Option.toList_some, Option.toList_none, forall_const, false_implies, true_implies, false_or, or_false, true_or, or_true, i_le, i_lt, i_eq, i_eq0, i_lt0, i_0le, i_0lt, i_le0, i_in1, i_cl, nI_add, pk_mul, pk_sub, i_div, i_rem, i_sh1, i_bit, i_or, i_and, i_andn, nt_le, nf_le, nt_lt, nf_lt, nt_eq, nf_eq, not_true_eq_false, and_self, and_false, false_and, eq_self, Bool.toNat_true, Bool.toNat_false, i_bool, i_bool1, Bool.false_eq_true, Bool.true_eq_false, reduceCtorEq, i_neg1, i_neg2, i_neg3, i_neg4, i_neg5, i_neg6, i_neg7, i_neg8, i_neg9, i_nega, i_negb, i_negc, i_max2, i_min2, wi_nil]
      repeat (
        first
        | refine s_X9_passes_0 ?_
        | refine s_X9_passes_18 ?_
        | refine s_X9_passes_33 ?_
        | refine s_X9_passes_59 ?_
        | refine s_X9_passes_64 ?_
        | refine s_X9_passes_69 ?_
        | refine s_X9_passes_78 ?_
        | refine s_X9_passes_93 ?_
        | refine s_X9_passes_102 ?_
        | refine s_X9_passes_108 ?_
        | refine s_X9_passes_116 ?_
        simp (disch := omega) only [B_X9_passes_0, wi_iconst, wi_istore, B_X9_passes_3, wi_iload, wi_aload_n, wi_getfield, fldv_8_10, fds_8_10, cnt_8, wi_icmp_ge, wi_iload_n, wi_invokestatic, B_X9_passes_18, wi_if_eq, wi_iadd, wi_invokevirtual, B_X9_passes_33, wi_iastore, wi_bipush, wi_dup2, wi_iaload, wi_goto, B_X9_passes_59, B_X9_passes_64, B_X9_passes_69, B_X9_passes_78, wi_if_ne, B_X9_passes_93, B_X9_passes_102, wi_iinc, B_X9_passes_108, B_X9_passes_116, wi_isub, wi_return_, no0, no1, nz1, nz2, nz3, nz4, nz5, nz7, nz8, Classical.not_not, bz0, bz1, wi_nil, ld_0, ld_s, isIv_I, isLv_L, isRv_R, true_and, and_true, lset_0, lset_1, lset_s, avw_I, avw_L, avw_R, clr_cons, clr_nil, kst_0, kst_1, kstL_0, kstL_1, addk_I, pA_0, pA_s, pD_0, pD_s, wid_nil, wid_cons, rcv_c, putv_I, putv_L, List.length_cons, List.length_nil, List.set_cons_zero, List.set_cons_succ, not_false_eq_true, Nat.reduceMod, Nat.reduceDiv, Nat.reduceEqDiff, Nat.reduceLT, Nat.reduceLeDiff, Nat.reduceAdd, Nat.reduceSub, reduceIte, Nat.lt_irrefl, Nat.zero_ne_one, Nat.one_ne_zero, Nat.zero_add, List.nil_append, List.cons_append, Option.toList_some, Option.toList_none, forall_const, false_implies, true_implies, false_or, or_false, true_or, or_true, i_le, i_lt, i_eq, i_eq0, i_lt0, i_0le, i_0lt, i_le0, i_in1, i_cl, nI_add, pk_mul, pk_sub, i_div, i_rem, i_sh1, i_bit, i_or, i_and, i_andn, nt_le, nf_le, nt_lt, nf_lt, nt_eq, nf_eq, not_true_eq_false, and_self, and_false, false_and, eq_self, Bool.toNat_true, Bool.toNat_false, i_bool, i_bool1, Bool.false_eq_true, Bool.true_eq_false, reduceCtorEq, i_neg1, i_neg2, i_neg3, i_neg4, i_neg5, i_neg6, i_neg7, i_neg8, i_neg9, i_nega, i_negb, i_negc, i_max2, i_min2])
      refine c_has (by omega) (by omega) ?_
      cases hgb : (Y 6 4).testBit i
      · rw [hgb, decide_eq_true hin] at hyb
        have hyb : (yop Y).testBit i = true := hyb
        try simp (disch := omega) only [no0, no1, nz1, nz2, nz3, nz4, nz5, nz7, nz8, Classical.not_not, bz0, bz1, wi_nil, ld_0, ld_s, isIv_I, isLv_L, isRv_R, true_and, and_true, lset_0, lset_1, lset_s, avw_I, avw_L, avw_R, clr_cons, clr_nil, kst_0, kst_1, kstL_0, kstL_1, addk_I, pA_0, pA_s, pD_0, pD_s, wid_nil, wid_cons, rcv_c, putv_I, putv_L, List.length_cons, List.length_nil, List.set_cons_zero, List.set_cons_succ, not_false_eq_true, Nat.reduceMod, Nat.reduceDiv, Nat.reduceEqDiff, Nat.reduceLT, Nat.reduceLeDiff, Nat.reduceAdd, Nat.reduceSub, reduceIte, Nat.lt_irrefl, Nat.zero_ne_one, Nat.one_ne_zero, Nat.zero_add, List.nil_append, List.cons_append, Option.toList_some, Option.toList_none, forall_const, false_implies, true_implies, false_or, or_false, true_or, or_true, i_le, i_lt, i_eq, i_eq0, i_lt0, i_0le, i_0lt, i_le0, i_in1, i_cl, nI_add, pk_mul, pk_sub, i_div, i_rem, i_sh1, i_bit, i_or, i_and, i_andn, nt_le, nf_le, nt_lt, nf_lt, nt_eq, nf_eq, not_true_eq_false, and_self, and_false, false_and, eq_self, Bool.toNat_true, Bool.toNat_false, i_bool, i_bool1, Bool.false_eq_true, Bool.true_eq_false, reduceCtorEq, i_neg1, i_neg2, i_neg3, i_neg4, i_neg5, i_neg6, i_neg7, i_neg8, i_neg9, i_nega, i_negb, i_negc, i_max2, i_min2, hyb, wi_nil]
        repeat (
          first
          | refine s_X9_passes_0 ?_
          | refine s_X9_passes_18 ?_
          | refine s_X9_passes_33 ?_
          | refine s_X9_passes_59 ?_
          | refine s_X9_passes_64 ?_
          | refine s_X9_passes_69 ?_
          | refine s_X9_passes_78 ?_
          | refine s_X9_passes_93 ?_
          | refine s_X9_passes_102 ?_
          | refine s_X9_passes_108 ?_
          | refine s_X9_passes_116 ?_
          simp (disch := omega) only [B_X9_passes_0, wi_iconst, wi_istore, B_X9_passes_3, wi_iload, wi_aload_n, wi_getfield, fldv_8_10, fds_8_10, cnt_8, wi_icmp_ge, wi_iload_n, wi_invokestatic, B_X9_passes_18, wi_if_eq, wi_iadd, wi_invokevirtual, B_X9_passes_33, wi_iastore, wi_bipush, wi_dup2, wi_iaload, wi_goto, B_X9_passes_59, B_X9_passes_64, B_X9_passes_69, B_X9_passes_78, wi_if_ne, B_X9_passes_93, B_X9_passes_102, wi_iinc, B_X9_passes_108, B_X9_passes_116, wi_isub, wi_return_, no0, no1, nz1, nz2, nz3, nz4, nz5, nz7, nz8, Classical.not_not, bz0, bz1, wi_nil, ld_0, ld_s, isIv_I, isLv_L, isRv_R, true_and, and_true, lset_0, lset_1, lset_s, avw_I, avw_L, avw_R, clr_cons, clr_nil, kst_0, kst_1, kstL_0, kstL_1, addk_I, pA_0, pA_s, pD_0, pD_s, wid_nil, wid_cons, rcv_c, putv_I, putv_L, List.length_cons, List.length_nil, List.set_cons_zero, List.set_cons_succ, not_false_eq_true, Nat.reduceMod, Nat.reduceDiv, Nat.reduceEqDiff, Nat.reduceLT, Nat.reduceLeDiff, Nat.reduceAdd, Nat.reduceSub, reduceIte, Nat.lt_irrefl, Nat.zero_ne_one, Nat.one_ne_zero, Nat.zero_add, List.nil_append, List.cons_append, Option.toList_some, Option.toList_none, forall_const, false_implies, true_implies, false_or, or_false, true_or, or_true, i_le, i_lt, i_eq, i_eq0, i_lt0, i_0le, i_0lt, i_le0, i_in1, i_cl, nI_add, pk_mul, pk_sub, i_div, i_rem, i_sh1, i_bit, i_or, i_and, i_andn, nt_le, nf_le, nt_lt, nf_lt, nt_eq, nf_eq, not_true_eq_false, and_self, and_false, false_and, eq_self, Bool.toNat_true, Bool.toNat_false, i_bool, i_bool1, Bool.false_eq_true, Bool.true_eq_false, reduceCtorEq, i_neg1, i_neg2, i_neg3, i_neg4, i_neg5, i_neg6, i_neg7, i_neg8, i_neg9, i_nega, i_negb, i_negc, i_max2, i_min2, hyb])
        refine c_has (by omega) (by omega) ?_
        cases hob : o.testBit i
        · try simp (disch := omega) only [no0, no1, nz1, nz2, nz3, nz4, nz5, nz7, nz8, Classical.not_not, bz0, bz1, wi_nil, ld_0, ld_s, isIv_I, isLv_L, isRv_R, true_and, and_true, lset_0, lset_1, lset_s, avw_I, avw_L, avw_R, clr_cons, clr_nil, kst_0, kst_1, kstL_0, kstL_1, addk_I, pA_0, pA_s, pD_0, pD_s, wid_nil, wid_cons, rcv_c, putv_I, putv_L, List.length_cons, List.length_nil, List.set_cons_zero, List.set_cons_succ, not_false_eq_true, Nat.reduceMod, Nat.reduceDiv, Nat.reduceEqDiff, Nat.reduceLT, Nat.reduceLeDiff, Nat.reduceAdd, Nat.reduceSub, reduceIte, Nat.lt_irrefl, Nat.zero_ne_one, Nat.one_ne_zero, Nat.zero_add, List.nil_append, List.cons_append, Option.toList_some, Option.toList_none, forall_const, false_implies, true_implies, false_or, or_false, true_or, or_true, i_le, i_lt, i_eq, i_eq0, i_lt0, i_0le, i_0lt, i_le0, i_in1, i_cl, nI_add, pk_mul, pk_sub, i_div, i_rem, i_sh1, i_bit, i_or, i_and, i_andn, nt_le, nf_le, nt_lt, nf_lt, nt_eq, nf_eq, not_true_eq_false, and_self, and_false, false_and, eq_self, Bool.toNat_true, Bool.toNat_false, i_bool, i_bool1, Bool.false_eq_true, Bool.true_eq_false, reduceCtorEq, i_neg1, i_neg2, i_neg3, i_neg4, i_neg5, i_neg6, i_neg7, i_neg8, i_neg9, i_nega, i_negb, i_negc, i_max2, i_min2, hob, kc, kT, kL, kK, k9, kA, wi_nil]
          repeat (
            first
            | refine s_X9_passes_0 ?_
            | refine s_X9_passes_18 ?_
            | refine s_X9_passes_33 ?_
            | refine s_X9_passes_59 ?_
            | refine s_X9_passes_64 ?_
            | refine s_X9_passes_69 ?_
            | refine s_X9_passes_78 ?_
            | refine s_X9_passes_93 ?_
            | refine s_X9_passes_102 ?_
            | refine s_X9_passes_108 ?_
            | refine s_X9_passes_116 ?_
            simp (disch := omega) only [B_X9_passes_0, wi_iconst, wi_istore, B_X9_passes_3, wi_iload, wi_aload_n, wi_getfield, fldv_8_10, fds_8_10, cnt_8, wi_icmp_ge, wi_iload_n, wi_invokestatic, B_X9_passes_18, wi_if_eq, wi_iadd, wi_invokevirtual, B_X9_passes_33, wi_iastore, wi_bipush, wi_dup2, wi_iaload, wi_goto, B_X9_passes_59, B_X9_passes_64, B_X9_passes_69, B_X9_passes_78, wi_if_ne, B_X9_passes_93, B_X9_passes_102, wi_iinc, B_X9_passes_108, B_X9_passes_116, wi_isub, wi_return_, no0, no1, nz1, nz2, nz3, nz4, nz5, nz7, nz8, Classical.not_not, bz0, bz1, wi_nil, ld_0, ld_s, isIv_I, isLv_L, isRv_R, true_and, and_true, lset_0, lset_1, lset_s, avw_I, avw_L, avw_R, clr_cons, clr_nil, kst_0, kst_1, kstL_0, kstL_1, addk_I, pA_0, pA_s, pD_0, pD_s, wid_nil, wid_cons, rcv_c, putv_I, putv_L, List.length_cons, List.length_nil, List.set_cons_zero, List.set_cons_succ, not_false_eq_true, Nat.reduceMod, Nat.reduceDiv, Nat.reduceEqDiff, Nat.reduceLT, Nat.reduceLeDiff, Nat.reduceAdd, Nat.reduceSub, reduceIte, Nat.lt_irrefl, Nat.zero_ne_one, Nat.one_ne_zero, Nat.zero_add, List.nil_append, List.cons_append, Option.toList_some, Option.toList_none, forall_const, false_implies, true_implies, false_or, or_false, true_or, or_true, i_le, i_lt, i_eq, i_eq0, i_lt0, i_0le, i_0lt, i_le0, i_in1, i_cl, nI_add, pk_mul, pk_sub, i_div, i_rem, i_sh1, i_bit, i_or, i_and, i_andn, nt_le, nf_le, nt_lt, nf_lt, nt_eq, nf_eq, not_true_eq_false, and_self, and_false, false_and, eq_self, Bool.toNat_true, Bool.toNat_false, i_bool, i_bool1, Bool.false_eq_true, Bool.true_eq_false, reduceCtorEq, i_neg1, i_neg2, i_neg3, i_neg4, i_neg5, i_neg6, i_neg7, i_neg8, i_neg9, i_nega, i_negb, i_negc, i_max2, i_min2, hob, kc, kT, kL, kK, k9, kA])
          refine c_lessened hk hm (by omega) (by omega) hi5 hi6 ?_
          rw [z0, z2]
          try simp (disch := omega) only [no0, no1, nz1, nz2, nz3, nz4, nz5, nz7, nz8, Classical.not_not, bz0, bz1, wi_nil, ld_0, ld_s, isIv_I, isLv_L, isRv_R, true_and, and_true, lset_0, lset_1, lset_s, avw_I, avw_L, avw_R, clr_cons, clr_nil, kst_0, kst_1, kstL_0, kstL_1, addk_I, pA_0, pA_s, pD_0, pD_s, wid_nil, wid_cons, rcv_c, putv_I, putv_L, List.length_cons, List.length_nil, List.set_cons_zero, List.set_cons_succ, not_false_eq_true, Nat.reduceMod, Nat.reduceDiv, Nat.reduceEqDiff, Nat.reduceLT, Nat.reduceLeDiff, Nat.reduceAdd, Nat.reduceSub, reduceIte, Nat.lt_irrefl, Nat.zero_ne_one, Nat.one_ne_zero, Nat.zero_add, List.nil_append, List.cons_append, Option.toList_some, Option.toList_none, forall_const, false_implies, true_implies, false_or, or_false, true_or, or_true, i_le, i_lt, i_eq, i_eq0, i_lt0, i_0le, i_0lt, i_le0, i_in1, i_cl, nI_add, pk_mul, pk_sub, i_div, i_rem, i_sh1, i_bit, i_or, i_and, i_andn, nt_le, nf_le, nt_lt, nf_lt, nt_eq, nf_eq, not_true_eq_false, and_self, and_false, false_and, eq_self, Bool.toNat_true, Bool.toNat_false, i_bool, i_bool1, Bool.false_eq_true, Bool.true_eq_false, reduceCtorEq, i_neg1, i_neg2, i_neg3, i_neg4, i_neg5, i_neg6, i_neg7, i_neg8, i_neg9, i_nega, i_negb, i_negc, i_max2, i_min2, kc, kT, kL, kK, k9, kA, gI_sI, gI_sL, gI_sA, gL_sI, gL_sL, gL_sA, gA_sI, gA_sL, gA_sA, sA_sA, pk_us, pk_un, wi_nil]
          repeat (
            first
            | refine s_X9_passes_0 ?_
            | refine s_X9_passes_18 ?_
            | refine s_X9_passes_33 ?_
            | refine s_X9_passes_59 ?_
            | refine s_X9_passes_64 ?_
            | refine s_X9_passes_69 ?_
            | refine s_X9_passes_78 ?_
            | refine s_X9_passes_93 ?_
            | refine s_X9_passes_102 ?_
            | refine s_X9_passes_108 ?_
            | refine s_X9_passes_116 ?_
            simp (disch := omega) only [B_X9_passes_0, wi_iconst, wi_istore, B_X9_passes_3, wi_iload, wi_aload_n, wi_getfield, fldv_8_10, fds_8_10, cnt_8, wi_icmp_ge, wi_iload_n, wi_invokestatic, B_X9_passes_18, wi_if_eq, wi_iadd, wi_invokevirtual, B_X9_passes_33, wi_iastore, wi_bipush, wi_dup2, wi_iaload, wi_goto, B_X9_passes_59, B_X9_passes_64, B_X9_passes_69, B_X9_passes_78, wi_if_ne, B_X9_passes_93, B_X9_passes_102, wi_iinc, B_X9_passes_108, B_X9_passes_116, wi_isub, wi_return_, no0, no1, nz1, nz2, nz3, nz4, nz5, nz7, nz8, Classical.not_not, bz0, bz1, wi_nil, ld_0, ld_s, isIv_I, isLv_L, isRv_R, true_and, and_true, lset_0, lset_1, lset_s, avw_I, avw_L, avw_R, clr_cons, clr_nil, kst_0, kst_1, kstL_0, kstL_1, addk_I, pA_0, pA_s, pD_0, pD_s, wid_nil, wid_cons, rcv_c, putv_I, putv_L, List.length_cons, List.length_nil, List.set_cons_zero, List.set_cons_succ, not_false_eq_true, Nat.reduceMod, Nat.reduceDiv, Nat.reduceEqDiff, Nat.reduceLT, Nat.reduceLeDiff, Nat.reduceAdd, Nat.reduceSub, reduceIte, Nat.lt_irrefl, Nat.zero_ne_one, Nat.one_ne_zero, Nat.zero_add, List.nil_append, List.cons_append, Option.toList_some, Option.toList_none, forall_const, false_implies, true_implies, false_or, or_false, true_or, or_true, i_le, i_lt, i_eq, i_eq0, i_lt0, i_0le, i_0lt, i_le0, i_in1, i_cl, nI_add, pk_mul, pk_sub, i_div, i_rem, i_sh1, i_bit, i_or, i_and, i_andn, nt_le, nf_le, nt_lt, nf_lt, nt_eq, nf_eq, not_true_eq_false, and_self, and_false, false_and, eq_self, Bool.toNat_true, Bool.toNat_false, i_bool, i_bool1, Bool.false_eq_true, Bool.true_eq_false, reduceCtorEq, i_neg1, i_neg2, i_neg3, i_neg4, i_neg5, i_neg6, i_neg7, i_neg8, i_neg9, i_nega, i_negb, i_negc, i_max2, i_min2, kc, kT, kL, kK, k9, kA, gI_sI, gI_sL, gI_sA, gL_sI, gL_sL, gL_sA, gA_sI, gA_sL, gA_sA, sA_sA, pk_us, pk_un])
          refine ih (i + 1) _ (by omega) (yrm_pp hk hm fa_sA ?_ ?_ ?_ ?_ hn5 hin) (hf.trans fa_sA)
          · rw [gA_same]
            unfold nqv
            simp (disch := omega) only [no0, no1, nz1, nz2, nz3, nz4, nz5, nz7, nz8, Classical.not_not, bz0, bz1, wi_nil, ld_0, ld_s, isIv_I, isLv_L, isRv_R, true_and, and_true, lset_0, lset_1, lset_s, avw_I, avw_L, avw_R, clr_cons, clr_nil, kst_0, kst_1, kstL_0, kstL_1, addk_I, pA_0, pA_s, pD_0, pD_s, wid_nil, wid_cons, rcv_c, putv_I, putv_L, List.length_cons, List.length_nil, List.set_cons_zero, List.set_cons_succ, not_false_eq_true, Nat.reduceMod, Nat.reduceDiv, Nat.reduceEqDiff, Nat.reduceLT, Nat.reduceLeDiff, Nat.reduceAdd, Nat.reduceSub, reduceIte, Nat.lt_irrefl, Nat.zero_ne_one, Nat.one_ne_zero, Nat.zero_add, List.nil_append, List.cons_append, Option.toList_some, Option.toList_none, forall_const, false_implies, true_implies, false_or, or_false, true_or, or_true, i_le, i_lt, i_eq, i_eq0, i_lt0, i_0le, i_0lt, i_le0, i_in1, i_cl, nI_add, pk_mul, pk_sub, i_div, i_rem, i_sh1, i_bit, i_or, i_and, i_andn, nt_le, nf_le, nt_lt, nf_lt, nt_eq, nf_eq, not_true_eq_false, and_self, and_false, false_and, eq_self, Bool.toNat_true, Bool.toNat_false, i_bool, i_bool1, Bool.false_eq_true, Bool.true_eq_false, reduceCtorEq, i_neg1, i_neg2, i_neg3, i_neg4, i_neg5, i_neg6, i_neg7, i_neg8, i_neg9, i_nega, i_negb, i_negc, i_max2, i_min2, pk_us, pk_un, hsb, hgb, hob]
          · rw [gA_same]
            unfold nqv
            simp (disch := omega) only [no0, no1, nz1, nz2, nz3, nz4, nz5, nz7, nz8, Classical.not_not, bz0, bz1, wi_nil, ld_0, ld_s, isIv_I, isLv_L, isRv_R, true_and, and_true, lset_0, lset_1, lset_s, avw_I, avw_L, avw_R, clr_cons, clr_nil, kst_0, kst_1, kstL_0, kstL_1, addk_I, pA_0, pA_s, pD_0, pD_s, wid_nil, wid_cons, rcv_c, putv_I, putv_L, List.length_cons, List.length_nil, List.set_cons_zero, List.set_cons_succ, not_false_eq_true, Nat.reduceMod, Nat.reduceDiv, Nat.reduceEqDiff, Nat.reduceLT, Nat.reduceLeDiff, Nat.reduceAdd, Nat.reduceSub, reduceIte, Nat.lt_irrefl, Nat.zero_ne_one, Nat.one_ne_zero, Nat.zero_add, List.nil_append, List.cons_append, Option.toList_some, Option.toList_none, forall_const, false_implies, true_implies, false_or, or_false, true_or, or_true, i_le, i_lt, i_eq, i_eq0, i_lt0, i_0le, i_0lt, i_le0, i_in1, i_cl, nI_add, pk_mul, pk_sub, i_div, i_rem, i_sh1, i_bit, i_or, i_and, i_andn, nt_le, nf_le, nt_lt, nf_lt, nt_eq, nf_eq, not_true_eq_false, and_self, and_false, false_and, eq_self, Bool.toNat_true, Bool.toNat_false, i_bool, i_bool1, Bool.false_eq_true, Bool.true_eq_false, reduceCtorEq, i_neg1, i_neg2, i_neg3, i_neg4, i_neg5, i_neg6, i_neg7, i_neg8, i_neg9, i_nega, i_negb, i_negc, i_max2, i_min2, pk_us, pk_un, hsb, hgb, hob]
          · rw [gA_same, pk_un (by omega), pk_un (by omega), et]
            unfold nqv
            simp (disch := omega) only [no0, no1, nz1, nz2, nz3, nz4, nz5, nz7, nz8, Classical.not_not, bz0, bz1, wi_nil, ld_0, ld_s, isIv_I, isLv_L, isRv_R, true_and, and_true, lset_0, lset_1, lset_s, avw_I, avw_L, avw_R, clr_cons, clr_nil, kst_0, kst_1, kstL_0, kstL_1, addk_I, pA_0, pA_s, pD_0, pD_s, wid_nil, wid_cons, rcv_c, putv_I, putv_L, List.length_cons, List.length_nil, List.set_cons_zero, List.set_cons_succ, not_false_eq_true, Nat.reduceMod, Nat.reduceDiv, Nat.reduceEqDiff, Nat.reduceLT, Nat.reduceLeDiff, Nat.reduceAdd, Nat.reduceSub, reduceIte, Nat.lt_irrefl, Nat.zero_ne_one, Nat.one_ne_zero, Nat.zero_add, List.nil_append, List.cons_append, Option.toList_some, Option.toList_none, forall_const, false_implies, true_implies, false_or, or_false, true_or, or_true, i_le, i_lt, i_eq, i_eq0, i_lt0, i_0le, i_0lt, i_le0, i_in1, i_cl, nI_add, pk_mul, pk_sub, i_div, i_rem, i_sh1, i_bit, i_or, i_and, i_andn, nt_le, nf_le, nt_lt, nf_lt, nt_eq, nf_eq, not_true_eq_false, and_self, and_false, false_and, eq_self, Bool.toNat_true, Bool.toNat_false, i_bool, i_bool1, Bool.false_eq_true, Bool.true_eq_false, reduceCtorEq, i_neg1, i_neg2, i_neg3, i_neg4, i_neg5, i_neg6, i_neg7, i_neg8, i_neg9, i_nega, i_negb, i_negc, i_max2, i_min2, hsb]
          · intro x x1 x2 x3
            rw [gA_same, pk_un (by omega), pk_un (by omega)]
        · try simp (disch := omega) only [no0, no1, nz1, nz2, nz3, nz4, nz5, nz7, nz8, Classical.not_not, bz0, bz1, wi_nil, ld_0, ld_s, isIv_I, isLv_L, isRv_R, true_and, and_true, lset_0, lset_1, lset_s, avw_I, avw_L, avw_R, clr_cons, clr_nil, kst_0, kst_1, kstL_0, kstL_1, addk_I, pA_0, pA_s, pD_0, pD_s, wid_nil, wid_cons, rcv_c, putv_I, putv_L, List.length_cons, List.length_nil, List.set_cons_zero, List.set_cons_succ, not_false_eq_true, Nat.reduceMod, Nat.reduceDiv, Nat.reduceEqDiff, Nat.reduceLT, Nat.reduceLeDiff, Nat.reduceAdd, Nat.reduceSub, reduceIte, Nat.lt_irrefl, Nat.zero_ne_one, Nat.one_ne_zero, Nat.zero_add, List.nil_append, List.cons_append, Option.toList_some, Option.toList_none, forall_const, false_implies, true_implies, false_or, or_false, true_or, or_true, i_le, i_lt, i_eq, i_eq0, i_lt0, i_0le, i_0lt, i_le0, i_in1, i_cl, nI_add, pk_mul, pk_sub, i_div, i_rem, i_sh1, i_bit, i_or, i_and, i_andn, nt_le, nf_le, nt_lt, nf_lt, nt_eq, nf_eq, not_true_eq_false, and_self, and_false, false_and, eq_self, Bool.toNat_true, Bool.toNat_false, i_bool, i_bool1, Bool.false_eq_true, Bool.true_eq_false, reduceCtorEq, i_neg1, i_neg2, i_neg3, i_neg4, i_neg5, i_neg6, i_neg7, i_neg8, i_neg9, i_nega, i_negb, i_negc, i_max2, i_min2, hob, wi_nil]
          repeat (
            first
            | refine s_X9_passes_0 ?_
            | refine s_X9_passes_18 ?_
            | refine s_X9_passes_33 ?_
            | refine s_X9_passes_59 ?_
            | refine s_X9_passes_64 ?_
            | refine s_X9_passes_69 ?_
            | refine s_X9_passes_78 ?_
            | refine s_X9_passes_93 ?_
            | refine s_X9_passes_108 ?_
            | refine s_X9_passes_116 ?_
            simp (disch := omega) only [B_X9_passes_0, wi_iconst, wi_istore, B_X9_passes_3, wi_iload, wi_aload_n, wi_getfield, fldv_8_10, fds_8_10, cnt_8, wi_icmp_ge, wi_iload_n, wi_invokestatic, B_X9_passes_18, wi_if_eq, wi_iadd, wi_invokevirtual, B_X9_passes_33, wi_iastore, wi_bipush, wi_dup2, wi_iaload, wi_goto, B_X9_passes_59, B_X9_passes_64, B_X9_passes_69, B_X9_passes_78, wi_if_ne, B_X9_passes_93, B_X9_passes_102, wi_iinc, B_X9_passes_108, B_X9_passes_116, wi_isub, wi_return_, no0, no1, nz1, nz2, nz3, nz4, nz5, nz7, nz8, Classical.not_not, bz0, bz1, wi_nil, ld_0, ld_s, isIv_I, isLv_L, isRv_R, true_and, and_true, lset_0, lset_1, lset_s, avw_I, avw_L, avw_R, clr_cons, clr_nil, kst_0, kst_1, kstL_0, kstL_1, addk_I, pA_0, pA_s, pD_0, pD_s, wid_nil, wid_cons, rcv_c, putv_I, putv_L, List.length_cons, List.length_nil, List.set_cons_zero, List.set_cons_succ, not_false_eq_true, Nat.reduceMod, Nat.reduceDiv, Nat.reduceEqDiff, Nat.reduceLT, Nat.reduceLeDiff, Nat.reduceAdd, Nat.reduceSub, reduceIte, Nat.lt_irrefl, Nat.zero_ne_one, Nat.one_ne_zero, Nat.zero_add, List.nil_append, List.cons_append, Option.toList_some, Option.toList_none, forall_const, false_implies, true_implies, false_or, or_false, true_or, or_true, i_le, i_lt, i_eq, i_eq0, i_lt0, i_0le, i_0lt, i_le0, i_in1, i_cl, nI_add, pk_mul, pk_sub, i_div, i_rem, i_sh1, i_bit, i_or, i_and, i_andn, nt_le, nf_le, nt_lt, nf_lt, nt_eq, nf_eq, not_true_eq_false, and_self, and_false, false_and, eq_self, Bool.toNat_true, Bool.toNat_false, i_bool, i_bool1, Bool.false_eq_true, Bool.true_eq_false, reduceCtorEq, i_neg1, i_neg2, i_neg3, i_neg4, i_neg5, i_neg6, i_neg7, i_neg8, i_neg9, i_nega, i_negb, i_negc, i_max2, i_min2, hob])
          refine same ?_ ?_ ?_ <;> unfold nqv
          · simp (disch := omega) only [no0, no1, nz1, nz2, nz3, nz4, nz5, nz7, nz8, Classical.not_not, bz0, bz1, wi_nil, ld_0, ld_s, isIv_I, isLv_L, isRv_R, true_and, and_true, lset_0, lset_1, lset_s, avw_I, avw_L, avw_R, clr_cons, clr_nil, kst_0, kst_1, kstL_0, kstL_1, addk_I, pA_0, pA_s, pD_0, pD_s, wid_nil, wid_cons, rcv_c, putv_I, putv_L, List.length_cons, List.length_nil, List.set_cons_zero, List.set_cons_succ, not_false_eq_true, Nat.reduceMod, Nat.reduceDiv, Nat.reduceEqDiff, Nat.reduceLT, Nat.reduceLeDiff, Nat.reduceAdd, Nat.reduceSub, reduceIte, Nat.lt_irrefl, Nat.zero_ne_one, Nat.one_ne_zero, Nat.zero_add, List.nil_append, List.cons_append, Option.toList_some, Option.toList_none, forall_const, false_implies, true_implies, false_or, or_false, true_or, or_true, i_le, i_lt, i_eq, i_eq0, i_lt0, i_0le, i_0lt, i_le0, i_in1, i_cl, nI_add, pk_mul, pk_sub, i_div, i_rem, i_sh1, i_bit, i_or, i_and, i_andn, nt_le, nf_le, nt_lt, nf_lt, nt_eq, nf_eq, not_true_eq_false, and_self, and_false, false_and, eq_self, Bool.toNat_true, Bool.toNat_false, i_bool, i_bool1, Bool.false_eq_true, Bool.true_eq_false, reduceCtorEq, i_neg1, i_neg2, i_neg3, i_neg4, i_neg5, i_neg6, i_neg7, i_neg8, i_neg9, i_nega, i_negb, i_negc, i_max2, i_min2, hsb, hgb, hob]
          · simp (disch := omega) only [no0, no1, nz1, nz2, nz3, nz4, nz5, nz7, nz8, Classical.not_not, bz0, bz1, wi_nil, ld_0, ld_s, isIv_I, isLv_L, isRv_R, true_and, and_true, lset_0, lset_1, lset_s, avw_I, avw_L, avw_R, clr_cons, clr_nil, kst_0, kst_1, kstL_0, kstL_1, addk_I, pA_0, pA_s, pD_0, pD_s, wid_nil, wid_cons, rcv_c, putv_I, putv_L, List.length_cons, List.length_nil, List.set_cons_zero, List.set_cons_succ, not_false_eq_true, Nat.reduceMod, Nat.reduceDiv, Nat.reduceEqDiff, Nat.reduceLT, Nat.reduceLeDiff, Nat.reduceAdd, Nat.reduceSub, reduceIte, Nat.lt_irrefl, Nat.zero_ne_one, Nat.one_ne_zero, Nat.zero_add, List.nil_append, List.cons_append, Option.toList_some, Option.toList_none, forall_const, false_implies, true_implies, false_or, or_false, true_or, or_true, i_le, i_lt, i_eq, i_eq0, i_lt0, i_0le, i_0lt, i_le0, i_in1, i_cl, nI_add, pk_mul, pk_sub, i_div, i_rem, i_sh1, i_bit, i_or, i_and, i_andn, nt_le, nf_le, nt_lt, nf_lt, nt_eq, nf_eq, not_true_eq_false, and_self, and_false, false_and, eq_self, Bool.toNat_true, Bool.toNat_false, i_bool, i_bool1, Bool.false_eq_true, Bool.true_eq_false, reduceCtorEq, i_neg1, i_neg2, i_neg3, i_neg4, i_neg5, i_neg6, i_neg7, i_neg8, i_neg9, i_nega, i_negb, i_negc, i_max2, i_min2, hsb, hgb, hob]
          · simp (disch := omega) only [no0, no1, nz1, nz2, nz3, nz4, nz5, nz7, nz8, Classical.not_not, bz0, bz1, wi_nil, ld_0, ld_s, isIv_I, isLv_L, isRv_R, true_and, and_true, lset_0, lset_1, lset_s, avw_I, avw_L, avw_R, clr_cons, clr_nil, kst_0, kst_1, kstL_0, kstL_1, addk_I, pA_0, pA_s, pD_0, pD_s, wid_nil, wid_cons, rcv_c, putv_I, putv_L, List.length_cons, List.length_nil, List.set_cons_zero, List.set_cons_succ, not_false_eq_true, Nat.reduceMod, Nat.reduceDiv, Nat.reduceEqDiff, Nat.reduceLT, Nat.reduceLeDiff, Nat.reduceAdd, Nat.reduceSub, reduceIte, Nat.lt_irrefl, Nat.zero_ne_one, Nat.one_ne_zero, Nat.zero_add, List.nil_append, List.cons_append, Option.toList_some, Option.toList_none, forall_const, false_implies, true_implies, false_or, or_false, true_or, or_true, i_le, i_lt, i_eq, i_eq0, i_lt0, i_0le, i_0lt, i_le0, i_in1, i_cl, nI_add, pk_mul, pk_sub, i_div, i_rem, i_sh1, i_bit, i_or, i_and, i_andn, nt_le, nf_le, nt_lt, nf_lt, nt_eq, nf_eq, not_true_eq_false, and_self, and_false, false_and, eq_self, Bool.toNat_true, Bool.toNat_false, i_bool, i_bool1, Bool.false_eq_true, Bool.true_eq_false, reduceCtorEq, i_neg1, i_neg2, i_neg3, i_neg4, i_neg5, i_neg6, i_neg7, i_neg8, i_neg9, i_nega, i_negb, i_negc, i_max2, i_min2, hsb, hgb, hob]
      · rw [hgb] at hyb
        have hyb : (yop Y).testBit i = false := by rw [hyb]; simp
        try simp (disch := omega) only [no0, no1, nz1, nz2, nz3, nz4, nz5, nz7, nz8, Classical.not_not, bz0, bz1, wi_nil, ld_0, ld_s, isIv_I, isLv_L, isRv_R, true_and, and_true, lset_0, lset_1, lset_s, avw_I, avw_L, avw_R, clr_cons, clr_nil, kst_0, kst_1, kstL_0, kstL_1, addk_I, pA_0, pA_s, pD_0, pD_s, wid_nil, wid_cons, rcv_c, putv_I, putv_L, List.length_cons, List.length_nil, List.set_cons_zero, List.set_cons_succ, not_false_eq_true, Nat.reduceMod, Nat.reduceDiv, Nat.reduceEqDiff, Nat.reduceLT, Nat.reduceLeDiff, Nat.reduceAdd, Nat.reduceSub, reduceIte, Nat.lt_irrefl, Nat.zero_ne_one, Nat.one_ne_zero, Nat.zero_add, List.nil_append, List.cons_append, Option.toList_some, Option.toList_none, forall_const, false_implies, true_implies, false_or, or_false, true_or, or_true, i_le, i_lt, i_eq, i_eq0, i_lt0, i_0le, i_0lt, i_le0, i_in1, i_cl, nI_add, pk_mul, pk_sub, i_div, i_rem, i_sh1, i_bit, i_or, i_and, i_andn, nt_le, nf_le, nt_lt, nf_lt, nt_eq, nf_eq, not_true_eq_false, and_self, and_false, false_and, eq_self, Bool.toNat_true, Bool.toNat_false, i_bool, i_bool1, Bool.false_eq_true, Bool.true_eq_false, reduceCtorEq, i_neg1, i_neg2, i_neg3, i_neg4, i_neg5, i_neg6, i_neg7, i_neg8, i_neg9, i_nega, i_negb, i_negc, i_max2, i_min2, hyb, wi_nil]
        repeat (
          first
          | refine s_X9_passes_0 ?_
          | refine s_X9_passes_18 ?_
          | refine s_X9_passes_33 ?_
          | refine s_X9_passes_59 ?_
          | refine s_X9_passes_64 ?_
          | refine s_X9_passes_69 ?_
          | refine s_X9_passes_78 ?_
          | refine s_X9_passes_93 ?_
          | refine s_X9_passes_108 ?_
          | refine s_X9_passes_116 ?_
          simp (disch := omega) only [B_X9_passes_0, wi_iconst, wi_istore, B_X9_passes_3, wi_iload, wi_aload_n, wi_getfield, fldv_8_10, fds_8_10, cnt_8, wi_icmp_ge, wi_iload_n, wi_invokestatic, B_X9_passes_18, wi_if_eq, wi_iadd, wi_invokevirtual, B_X9_passes_33, wi_iastore, wi_bipush, wi_dup2, wi_iaload, wi_goto, B_X9_passes_59, B_X9_passes_64, B_X9_passes_69, B_X9_passes_78, wi_if_ne, B_X9_passes_93, B_X9_passes_102, wi_iinc, B_X9_passes_108, B_X9_passes_116, wi_isub, wi_return_, no0, no1, nz1, nz2, nz3, nz4, nz5, nz7, nz8, Classical.not_not, bz0, bz1, wi_nil, ld_0, ld_s, isIv_I, isLv_L, isRv_R, true_and, and_true, lset_0, lset_1, lset_s, avw_I, avw_L, avw_R, clr_cons, clr_nil, kst_0, kst_1, kstL_0, kstL_1, addk_I, pA_0, pA_s, pD_0, pD_s, wid_nil, wid_cons, rcv_c, putv_I, putv_L, List.length_cons, List.length_nil, List.set_cons_zero, List.set_cons_succ, not_false_eq_true, Nat.reduceMod, Nat.reduceDiv, Nat.reduceEqDiff, Nat.reduceLT, Nat.reduceLeDiff, Nat.reduceAdd, Nat.reduceSub, reduceIte, Nat.lt_irrefl, Nat.zero_ne_one, Nat.one_ne_zero, Nat.zero_add, List.nil_append, List.cons_append, Option.toList_some, Option.toList_none, forall_const, false_implies, true_implies, false_or, or_false, true_or, or_true, i_le, i_lt, i_eq, i_eq0, i_lt0, i_0le, i_0lt, i_le0, i_in1, i_cl, nI_add, pk_mul, pk_sub, i_div, i_rem, i_sh1, i_bit, i_or, i_and, i_andn, nt_le, nf_le, nt_lt, nf_lt, nt_eq, nf_eq, not_true_eq_false, and_self, and_false, false_and, eq_self, Bool.toNat_true, Bool.toNat_false, i_bool, i_bool1, Bool.false_eq_true, Bool.true_eq_false, reduceCtorEq, i_neg1, i_neg2, i_neg3, i_neg4, i_neg5, i_neg6, i_neg7, i_neg8, i_neg9, i_nega, i_negb, i_negc, i_max2, i_min2, hyb])
        refine same ?_ ?_ ?_ <;> unfold nqv
        · simp (disch := omega) only [no0, no1, nz1, nz2, nz3, nz4, nz5, nz7, nz8, Classical.not_not, bz0, bz1, wi_nil, ld_0, ld_s, isIv_I, isLv_L, isRv_R, true_and, and_true, lset_0, lset_1, lset_s, avw_I, avw_L, avw_R, clr_cons, clr_nil, kst_0, kst_1, kstL_0, kstL_1, addk_I, pA_0, pA_s, pD_0, pD_s, wid_nil, wid_cons, rcv_c, putv_I, putv_L, List.length_cons, List.length_nil, List.set_cons_zero, List.set_cons_succ, not_false_eq_true, Nat.reduceMod, Nat.reduceDiv, Nat.reduceEqDiff, Nat.reduceLT, Nat.reduceLeDiff, Nat.reduceAdd, Nat.reduceSub, reduceIte, Nat.lt_irrefl, Nat.zero_ne_one, Nat.one_ne_zero, Nat.zero_add, List.nil_append, List.cons_append, Option.toList_some, Option.toList_none, forall_const, false_implies, true_implies, false_or, or_false, true_or, or_true, i_le, i_lt, i_eq, i_eq0, i_lt0, i_0le, i_0lt, i_le0, i_in1, i_cl, nI_add, pk_mul, pk_sub, i_div, i_rem, i_sh1, i_bit, i_or, i_and, i_andn, nt_le, nf_le, nt_lt, nf_lt, nt_eq, nf_eq, not_true_eq_false, and_self, and_false, false_and, eq_self, Bool.toNat_true, Bool.toNat_false, i_bool, i_bool1, Bool.false_eq_true, Bool.true_eq_false, reduceCtorEq, i_neg1, i_neg2, i_neg3, i_neg4, i_neg5, i_neg6, i_neg7, i_neg8, i_neg9, i_nega, i_negb, i_negc, i_max2, i_min2, hsb, hgb]
        · simp (disch := omega) only [no0, no1, nz1, nz2, nz3, nz4, nz5, nz7, nz8, Classical.not_not, bz0, bz1, wi_nil, ld_0, ld_s, isIv_I, isLv_L, isRv_R, true_and, and_true, lset_0, lset_1, lset_s, avw_I, avw_L, avw_R, clr_cons, clr_nil, kst_0, kst_1, kstL_0, kstL_1, addk_I, pA_0, pA_s, pD_0, pD_s, wid_nil, wid_cons, rcv_c, putv_I, putv_L, List.length_cons, List.length_nil, List.set_cons_zero, List.set_cons_succ, not_false_eq_true, Nat.reduceMod, Nat.reduceDiv, Nat.reduceEqDiff, Nat.reduceLT, Nat.reduceLeDiff, Nat.reduceAdd, Nat.reduceSub, reduceIte, Nat.lt_irrefl, Nat.zero_ne_one, Nat.one_ne_zero, Nat.zero_add, List.nil_append, List.cons_append, Option.toList_some, Option.toList_none, forall_const, false_implies, true_implies, false_or, or_false, true_or, or_true, i_le, i_lt, i_eq, i_eq0, i_lt0, i_0le, i_0lt, i_le0, i_in1, i_cl, nI_add, pk_mul, pk_sub, i_div, i_rem, i_sh1, i_bit, i_or, i_and, i_andn, nt_le, nf_le, nt_lt, nf_lt, nt_eq, nf_eq, not_true_eq_false, and_self, and_false, false_and, eq_self, Bool.toNat_true, Bool.toNat_false, i_bool, i_bool1, Bool.false_eq_true, Bool.true_eq_false, reduceCtorEq, i_neg1, i_neg2, i_neg3, i_neg4, i_neg5, i_neg6, i_neg7, i_neg8, i_neg9, i_nega, i_negb, i_negc, i_max2, i_min2, hsb, hgb]
        · simp (disch := omega) only [no0, no1, nz1, nz2, nz3, nz4, nz5, nz7, nz8, Classical.not_not, bz0, bz1, wi_nil, ld_0, ld_s, isIv_I, isLv_L, isRv_R, true_and, and_true, lset_0, lset_1, lset_s, avw_I, avw_L, avw_R, clr_cons, clr_nil, kst_0, kst_1, kstL_0, kstL_1, addk_I, pA_0, pA_s, pD_0, pD_s, wid_nil, wid_cons, rcv_c, putv_I, putv_L, List.length_cons, List.length_nil, List.set_cons_zero, List.set_cons_succ, not_false_eq_true, Nat.reduceMod, Nat.reduceDiv, Nat.reduceEqDiff, Nat.reduceLT, Nat.reduceLeDiff, Nat.reduceAdd, Nat.reduceSub, reduceIte, Nat.lt_irrefl, Nat.zero_ne_one, Nat.one_ne_zero, Nat.zero_add, List.nil_append, List.cons_append, Option.toList_some, Option.toList_none, forall_const, false_implies, true_implies, false_or, or_false, true_or, or_true, i_le, i_lt, i_eq, i_eq0, i_lt0, i_0le, i_0lt, i_le0, i_in1, i_cl, nI_add, pk_mul, pk_sub, i_div, i_rem, i_sh1, i_bit, i_or, i_and, i_andn, nt_le, nf_le, nt_lt, nf_lt, nt_eq, nf_eq, not_true_eq_false, and_self, and_false, false_and, eq_self, Bool.toNat_true, Bool.toNat_false, i_bool, i_bool1, Bool.false_eq_true, Bool.true_eq_false, reduceCtorEq, i_neg1, i_neg2, i_neg3, i_neg4, i_neg5, i_neg6, i_neg7, i_neg8, i_neg9, i_nega, i_negb, i_negc, i_max2, i_min2, hsb, hgb]
    · try simp (disch := omega) only [no0, no1, nz1, nz2, nz3, nz4, nz5, nz7, nz8, Classical.not_not, bz0, bz1, wi_nil, ld_0, ld_s, isIv_I, isLv_L, isRv_R, true_and, and_true, lset_0, lset_1, lset_s, avw_I, avw_L, avw_R, clr_cons, clr_nil, kst_0, kst_1, kstL_0, kstL_1, addk_I, pA_0, pA_s, pD_0, pD_s, wid_nil, wid_cons, rcv_c, putv_I, putv_L, List.length_cons, List.length_nil, List.set_cons_zero, List.set_cons_succ, not_false_eq_true, Nat.reduceMod, Nat.reduceDiv, Nat.reduceEqDiff, Nat.reduceLT, Nat.reduceLeDiff, Nat.reduceAdd, Nat.reduceSub, reduceIte, Nat.lt_irrefl, Nat.zero_ne_one, Nat.one_ne_zero, Nat.zero_add, List.nil_append, List.cons_append, Option.toList_some, Option.toList_none, forall_const, false_implies, true_implies, false_or, or_false, true_or, or_true, i_le, i_lt, i_eq, i_eq0, i_lt0, i_0le, i_0lt, i_le0, i_in1, i_cl, nI_add, pk_mul, pk_sub, i_div, i_rem, i_sh1, i_bit, i_or, i_and, i_andn, nt_le, nf_le, nt_lt, nf_lt, nt_eq, nf_eq, not_true_eq_false, and_self, and_false, false_and, eq_self, Bool.toNat_true, Bool.toNat_false, i_bool, i_bool1, Bool.false_eq_true, Bool.true_eq_false, reduceCtorEq, i_neg1, i_neg2, i_neg3, i_neg4, i_neg5, i_neg6, i_neg7, i_neg8, i_neg9, i_nega, i_negb, i_negc, i_max2, i_min2, hsb, kc, kT, kL, kK, k9, kA, wi_nil]
      repeat (
        first
        | refine s_X9_passes_0 ?_
        | refine s_X9_passes_18 ?_
        | refine s_X9_passes_33 ?_
        | refine s_X9_passes_59 ?_
        | refine s_X9_passes_64 ?_
        | refine s_X9_passes_69 ?_
        | refine s_X9_passes_78 ?_
        | refine s_X9_passes_93 ?_
        | refine s_X9_passes_102 ?_
        | refine s_X9_passes_108 ?_
        | refine s_X9_passes_116 ?_
        simp (disch := omega) only [B_X9_passes_0, wi_iconst, wi_istore, B_X9_passes_3, wi_iload, wi_aload_n, wi_getfield, fldv_8_10, fds_8_10, cnt_8, wi_icmp_ge, wi_iload_n, wi_invokestatic, B_X9_passes_18, wi_if_eq, wi_iadd, wi_invokevirtual, B_X9_passes_33, wi_iastore, wi_bipush, wi_dup2, wi_iaload, wi_goto, B_X9_passes_59, B_X9_passes_64, B_X9_passes_69, B_X9_passes_78, wi_if_ne, B_X9_passes_93, B_X9_passes_102, wi_iinc, B_X9_passes_108, B_X9_passes_116, wi_isub, wi_return_, no0, no1, nz1, nz2, nz3, nz4, nz5, nz7, nz8, Classical.not_not, bz0, bz1, wi_nil, ld_0, ld_s, isIv_I, isLv_L, isRv_R, true_and, and_true, lset_0, lset_1, lset_s, avw_I, avw_L, avw_R, clr_cons, clr_nil, kst_0, kst_1, kstL_0, kstL_1, addk_I, pA_0, pA_s, pD_0, pD_s, wid_nil, wid_cons, rcv_c, putv_I, putv_L, List.length_cons, List.length_nil, List.set_cons_zero, List.set_cons_succ, not_false_eq_true, Nat.reduceMod, Nat.reduceDiv, Nat.reduceEqDiff, Nat.reduceLT, Nat.reduceLeDiff, Nat.reduceAdd, Nat.reduceSub, reduceIte, Nat.lt_irrefl, Nat.zero_ne_one, Nat.one_ne_zero, Nat.zero_add, List.nil_append, List.cons_append, Option.toList_some, Option.toList_none, forall_const, false_implies, true_implies, false_or, or_false, true_or, or_true, i_le, i_lt, i_eq, i_eq0, i_lt0, i_0le, i_0lt, i_le0, i_in1, i_cl, nI_add, pk_mul, pk_sub, i_div, i_rem, i_sh1, i_bit, i_or, i_and, i_andn, nt_le, nf_le, nt_lt, nf_lt, nt_eq, nf_eq, not_true_eq_false, and_self, and_false, false_and, eq_self, Bool.toNat_true, Bool.toNat_false, i_bool, i_bool1, Bool.false_eq_true, Bool.true_eq_false, reduceCtorEq, i_neg1, i_neg2, i_neg3, i_neg4, i_neg5, i_neg6, i_neg7, i_neg8, i_neg9, i_nega, i_negb, i_negc, i_max2, i_min2, hsb, kc, kT, kL, kK, k9, kA])
      refine c_mgrown hk hm (by omega) (by omega) hi5 hi6 ?_
      rw [z0, z2]
      try simp (disch := omega) only [no0, no1, nz1, nz2, nz3, nz4, nz5, nz7, nz8, Classical.not_not, bz0, bz1, wi_nil, ld_0, ld_s, isIv_I, isLv_L, isRv_R, true_and, and_true, lset_0, lset_1, lset_s, avw_I, avw_L, avw_R, clr_cons, clr_nil, kst_0, kst_1, kstL_0, kstL_1, addk_I, pA_0, pA_s, pD_0, pD_s, wid_nil, wid_cons, rcv_c, putv_I, putv_L, List.length_cons, List.length_nil, List.set_cons_zero, List.set_cons_succ, not_false_eq_true, Nat.reduceMod, Nat.reduceDiv, Nat.reduceEqDiff, Nat.reduceLT, Nat.reduceLeDiff, Nat.reduceAdd, Nat.reduceSub, reduceIte, Nat.lt_irrefl, Nat.zero_ne_one, Nat.one_ne_zero, Nat.zero_add, List.nil_append, List.cons_append, Option.toList_some, Option.toList_none, forall_const, false_implies, true_implies, false_or, or_false, true_or, or_true, i_le, i_lt, i_eq, i_eq0, i_lt0, i_0le, i_0lt, i_le0, i_in1, i_cl, nI_add, pk_mul, pk_sub, i_div, i_rem, i_sh1, i_bit, i_or, i_and, i_andn, nt_le, nf_le, nt_lt, nf_lt, nt_eq, nf_eq, not_true_eq_false, and_self, and_false, false_and, eq_self, Bool.toNat_true, Bool.toNat_false, i_bool, i_bool1, Bool.false_eq_true, Bool.true_eq_false, reduceCtorEq, i_neg1, i_neg2, i_neg3, i_neg4, i_neg5, i_neg6, i_neg7, i_neg8, i_neg9, i_nega, i_negb, i_negc, i_max2, i_min2, ec, et, kc, kT, kL, kK, k9, kA, gI_sI, gI_sL, gI_sA, gL_sI, gL_sL, gL_sA, gA_sI, gA_sL, gA_sA, sA_sA, pk_us, pk_un, wi_nil]
      repeat (
        first
        | refine s_X9_passes_0 ?_
        | refine s_X9_passes_18 ?_
        | refine s_X9_passes_33 ?_
        | refine s_X9_passes_59 ?_
        | refine s_X9_passes_64 ?_
        | refine s_X9_passes_69 ?_
        | refine s_X9_passes_78 ?_
        | refine s_X9_passes_93 ?_
        | refine s_X9_passes_102 ?_
        | refine s_X9_passes_108 ?_
        | refine s_X9_passes_116 ?_
        simp (disch := omega) only [B_X9_passes_0, wi_iconst, wi_istore, B_X9_passes_3, wi_iload, wi_aload_n, wi_getfield, fldv_8_10, fds_8_10, cnt_8, wi_icmp_ge, wi_iload_n, wi_invokestatic, B_X9_passes_18, wi_if_eq, wi_iadd, wi_invokevirtual, B_X9_passes_33, wi_iastore, wi_bipush, wi_dup2, wi_iaload, wi_goto, B_X9_passes_59, B_X9_passes_64, B_X9_passes_69, B_X9_passes_78, wi_if_ne, B_X9_passes_93, B_X9_passes_102, wi_iinc, B_X9_passes_108, B_X9_passes_116, wi_isub, wi_return_, no0, no1, nz1, nz2, nz3, nz4, nz5, nz7, nz8, Classical.not_not, bz0, bz1, wi_nil, ld_0, ld_s, isIv_I, isLv_L, isRv_R, true_and, and_true, lset_0, lset_1, lset_s, avw_I, avw_L, avw_R, clr_cons, clr_nil, kst_0, kst_1, kstL_0, kstL_1, addk_I, pA_0, pA_s, pD_0, pD_s, wid_nil, wid_cons, rcv_c, putv_I, putv_L, List.length_cons, List.length_nil, List.set_cons_zero, List.set_cons_succ, not_false_eq_true, Nat.reduceMod, Nat.reduceDiv, Nat.reduceEqDiff, Nat.reduceLT, Nat.reduceLeDiff, Nat.reduceAdd, Nat.reduceSub, reduceIte, Nat.lt_irrefl, Nat.zero_ne_one, Nat.one_ne_zero, Nat.zero_add, List.nil_append, List.cons_append, Option.toList_some, Option.toList_none, forall_const, false_implies, true_implies, false_or, or_false, true_or, or_true, i_le, i_lt, i_eq, i_eq0, i_lt0, i_0le, i_0lt, i_le0, i_in1, i_cl, nI_add, pk_mul, pk_sub, i_div, i_rem, i_sh1, i_bit, i_or, i_and, i_andn, nt_le, nf_le, nt_lt, nf_lt, nt_eq, nf_eq, not_true_eq_false, and_self, and_false, false_and, eq_self, Bool.toNat_true, Bool.toNat_false, i_bool, i_bool1, Bool.false_eq_true, Bool.true_eq_false, reduceCtorEq, i_neg1, i_neg2, i_neg3, i_neg4, i_neg5, i_neg6, i_neg7, i_neg8, i_neg9, i_nega, i_negb, i_negc, i_max2, i_min2, ec, et, kc, kT, kL, kK, k9, kA, gI_sI, gI_sL, gI_sA, gL_sI, gL_sL, gL_sA, gA_sI, gA_sL, gA_sA, sA_sA, pk_us, pk_un])
      refine ih (i + 1) _ (by omega) (yrm_pp hk hm fa_sA ?_ ?_ ?_ ?_ hn5 hin) (hf.trans fa_sA)
      · rw [gA_same]
        unfold nqv
        simp (disch := omega) only [no0, no1, nz1, nz2, nz3, nz4, nz5, nz7, nz8, Classical.not_not, bz0, bz1, wi_nil, ld_0, ld_s, isIv_I, isLv_L, isRv_R, true_and, and_true, lset_0, lset_1, lset_s, avw_I, avw_L, avw_R, clr_cons, clr_nil, kst_0, kst_1, kstL_0, kstL_1, addk_I, pA_0, pA_s, pD_0, pD_s, wid_nil, wid_cons, rcv_c, putv_I, putv_L, List.length_cons, List.length_nil, List.set_cons_zero, List.set_cons_succ, not_false_eq_true, Nat.reduceMod, Nat.reduceDiv, Nat.reduceEqDiff, Nat.reduceLT, Nat.reduceLeDiff, Nat.reduceAdd, Nat.reduceSub, reduceIte, Nat.lt_irrefl, Nat.zero_ne_one, Nat.one_ne_zero, Nat.zero_add, List.nil_append, List.cons_append, Option.toList_some, Option.toList_none, forall_const, false_implies, true_implies, false_or, or_false, true_or, or_true, i_le, i_lt, i_eq, i_eq0, i_lt0, i_0le, i_0lt, i_le0, i_in1, i_cl, nI_add, pk_mul, pk_sub, i_div, i_rem, i_sh1, i_bit, i_or, i_and, i_andn, nt_le, nf_le, nt_lt, nf_lt, nt_eq, nf_eq, not_true_eq_false, and_self, and_false, false_and, eq_self, Bool.toNat_true, Bool.toNat_false, i_bool, i_bool1, Bool.false_eq_true, Bool.true_eq_false, reduceCtorEq, i_neg1, i_neg2, i_neg3, i_neg4, i_neg5, i_neg6, i_neg7, i_neg8, i_neg9, i_nega, i_negb, i_negc, i_max2, i_min2, pk_us, pk_un, hsb]
      · rw [gA_same]
        unfold nqv
        simp (disch := omega) only [no0, no1, nz1, nz2, nz3, nz4, nz5, nz7, nz8, Classical.not_not, bz0, bz1, wi_nil, ld_0, ld_s, isIv_I, isLv_L, isRv_R, true_and, and_true, lset_0, lset_1, lset_s, avw_I, avw_L, avw_R, clr_cons, clr_nil, kst_0, kst_1, kstL_0, kstL_1, addk_I, pA_0, pA_s, pD_0, pD_s, wid_nil, wid_cons, rcv_c, putv_I, putv_L, List.length_cons, List.length_nil, List.set_cons_zero, List.set_cons_succ, not_false_eq_true, Nat.reduceMod, Nat.reduceDiv, Nat.reduceEqDiff, Nat.reduceLT, Nat.reduceLeDiff, Nat.reduceAdd, Nat.reduceSub, reduceIte, Nat.lt_irrefl, Nat.zero_ne_one, Nat.one_ne_zero, Nat.zero_add, List.nil_append, List.cons_append, Option.toList_some, Option.toList_none, forall_const, false_implies, true_implies, false_or, or_false, true_or, or_true, i_le, i_lt, i_eq, i_eq0, i_lt0, i_0le, i_0lt, i_le0, i_in1, i_cl, nI_add, pk_mul, pk_sub, i_div, i_rem, i_sh1, i_bit, i_or, i_and, i_andn, nt_le, nf_le, nt_lt, nf_lt, nt_eq, nf_eq, not_true_eq_false, and_self, and_false, false_and, eq_self, Bool.toNat_true, Bool.toNat_false, i_bool, i_bool1, Bool.false_eq_true, Bool.true_eq_false, reduceCtorEq, i_neg1, i_neg2, i_neg3, i_neg4, i_neg5, i_neg6, i_neg7, i_neg8, i_neg9, i_nega, i_negb, i_negc, i_max2, i_min2, pk_us, pk_un, hsb]
      · rw [gA_same]
        unfold nqv
        simp (disch := omega) only [no0, no1, nz1, nz2, nz3, nz4, nz5, nz7, nz8, Classical.not_not, bz0, bz1, wi_nil, ld_0, ld_s, isIv_I, isLv_L, isRv_R, true_and, and_true, lset_0, lset_1, lset_s, avw_I, avw_L, avw_R, clr_cons, clr_nil, kst_0, kst_1, kstL_0, kstL_1, addk_I, pA_0, pA_s, pD_0, pD_s, wid_nil, wid_cons, rcv_c, putv_I, putv_L, List.length_cons, List.length_nil, List.set_cons_zero, List.set_cons_succ, not_false_eq_true, Nat.reduceMod, Nat.reduceDiv, Nat.reduceEqDiff, Nat.reduceLT, Nat.reduceLeDiff, Nat.reduceAdd, Nat.reduceSub, reduceIte, Nat.lt_irrefl, Nat.zero_ne_one, Nat.one_ne_zero, Nat.zero_add, List.nil_append, List.cons_append, Option.toList_some, Option.toList_none, forall_const, false_implies, true_implies, false_or, or_false, true_or, or_true, i_le, i_lt, i_eq, i_eq0, i_lt0, i_0le, i_0lt, i_le0, i_in1, i_cl, nI_add, pk_mul, pk_sub, i_div, i_rem, i_sh1, i_bit, i_or, i_and, i_andn, nt_le, nf_le, nt_lt, nf_lt, nt_eq, nf_eq, not_true_eq_false, and_self, and_false, false_and, eq_self, Bool.toNat_true, Bool.toNat_false, i_bool, i_bool1, Bool.false_eq_true, Bool.true_eq_false, reduceCtorEq, i_neg1, i_neg2, i_neg3, i_neg4, i_neg5, i_neg6, i_neg7, i_neg8, i_neg9, i_nega, i_negb, i_negc, i_max2, i_min2, pk_us, pk_un, hsb]
      · intro x x1 x2 x3
        rw [gA_same, pk_un (by omega), pk_un (by omega), pk_un (by omega)]
theorem c_passes {s o : Nat} (hk : k = 40 ∨ k = 41) (hm : YrM S k Y) (ho : YOk B Y) (hB : B < 900) (hs : s < 32) (ho32 : o < 32) (hof : bct o ≤ Y 6 3) (q : ∀ S2, YrM S2 k (psM Y s o) → FA k S S2 → P none S2) : wpM (d + 4) mX9_passes [aR 8 0, aR k 0, aI (nI s), aI (nI o)] S P := by
  refine x_entry (ls2 := [aR 8 0, aR k 0, aI (nI s), aI (nI o), aU]) (Nat.le_of_ble_eq_true rfl) pl_9 rfl (Nat.le_of_ble_eq_true rfl) ?_
  try simp (disch := omega) only [no0, no1, nz1, nz2, nz3, nz4, nz5, nz7, nz8, Classical.not_not, bz0, bz1, wi_nil, ld_0, ld_s, isIv_I, isLv_L, isRv_R, true_and, and_true, lset_0, lset_1, lset_s, avw_I, avw_L, avw_R, clr_cons, clr_nil, kst_0, kst_1, kstL_0, kstL_1, addk_I, pA_0, pA_s, pD_0, pD_s, wid_nil, wid_cons, rcv_c, putv_I, putv_L, List.length_cons, List.length_nil, List.set_cons_zero, List.set_cons_succ, not_false_eq_true, Nat.reduceMod, Nat.reduceDiv, Nat.reduceEqDiff, Nat.reduceLT, Nat.reduceLeDiff, Nat.reduceAdd, Nat.reduceSub, reduceIte, Nat.lt_irrefl, Nat.zero_ne_one, Nat.one_ne_zero, Nat.zero_add, List.nil_append, List.cons_append, Option.toList_some, Option.toList_none, forall_const, false_implies, true_implies, false_or, or_false, true_or, or_true, i_le, i_lt, i_eq, i_eq0, i_lt0, i_0le, i_0lt, i_le0, i_in1, i_cl, nI_add, pk_mul, pk_sub, i_div, i_rem, i_sh1, i_bit, i_or, i_and, i_andn, nt_le, nf_le, nt_lt, nf_lt, nt_eq, nf_eq, not_true_eq_false, and_self, and_false, false_and, eq_self, Bool.toNat_true, Bool.toNat_false, i_bool, i_bool1, Bool.false_eq_true, Bool.true_eq_false, reduceCtorEq, i_neg1, i_neg2, i_neg3, i_neg4, i_neg5, i_neg6, i_neg7, i_neg8, i_neg9, i_nega, i_negb, i_negc, i_max2, i_min2, wi_nil]
  repeat (
    first
    | refine s_X9_passes_0 ?_
    | refine s_X9_passes_18 ?_
    | refine s_X9_passes_33 ?_
    | refine s_X9_passes_59 ?_
    | refine s_X9_passes_64 ?_
    | refine s_X9_passes_69 ?_
    | refine s_X9_passes_78 ?_
    | refine s_X9_passes_93 ?_
    | refine s_X9_passes_102 ?_
    | refine s_X9_passes_108 ?_
    | refine s_X9_passes_116 ?_
    simp (disch := omega) only [B_X9_passes_0, wi_iconst, wi_istore, B_X9_passes_3, wi_iload, wi_aload_n, wi_getfield, fldv_8_10, fds_8_10, cnt_8, wi_icmp_ge, wi_iload_n, wi_invokestatic, B_X9_passes_18, wi_if_eq, wi_iadd, wi_invokevirtual, B_X9_passes_33, wi_iastore, wi_bipush, wi_dup2, wi_iaload, wi_goto, B_X9_passes_59, B_X9_passes_64, B_X9_passes_69, B_X9_passes_78, wi_if_ne, B_X9_passes_93, B_X9_passes_102, wi_iinc, B_X9_passes_108, B_X9_passes_116, wi_isub, wi_return_, no0, no1, nz1, nz2, nz3, nz4, nz5, nz7, nz8, Classical.not_not, bz0, bz1, wi_nil, ld_0, ld_s, isIv_I, isLv_L, isRv_R, true_and, and_true, lset_0, lset_1, lset_s, avw_I, avw_L, avw_R, clr_cons, clr_nil, kst_0, kst_1, kstL_0, kstL_1, addk_I, pA_0, pA_s, pD_0, pD_s, wid_nil, wid_cons, rcv_c, putv_I, putv_L, List.length_cons, List.length_nil, List.set_cons_zero, List.set_cons_succ, not_false_eq_true, Nat.reduceMod, Nat.reduceDiv, Nat.reduceEqDiff, Nat.reduceLT, Nat.reduceLeDiff, Nat.reduceAdd, Nat.reduceSub, reduceIte, Nat.lt_irrefl, Nat.zero_ne_one, Nat.one_ne_zero, Nat.zero_add, List.nil_append, List.cons_append, Option.toList_some, Option.toList_none, forall_const, false_implies, true_implies, false_or, or_false, true_or, or_true, i_le, i_lt, i_eq, i_eq0, i_lt0, i_0le, i_0lt, i_le0, i_in1, i_cl, nI_add, pk_mul, pk_sub, i_div, i_rem, i_sh1, i_bit, i_or, i_and, i_andn, nt_le, nf_le, nt_lt, nf_lt, nt_eq, nf_eq, not_true_eq_false, and_self, and_false, false_and, eq_self, Bool.toNat_true, Bool.toNat_false, i_bool, i_bool1, Bool.false_eq_true, Bool.true_eq_false, reduceCtorEq, i_neg1, i_neg2, i_neg3, i_neg4, i_neg5, i_neg6, i_neg7, i_neg8, i_neg9, i_nega, i_negb, i_negc, i_max2, i_min2])
  exact l_passes hk ho hB hs ho32 hof q (Y 6 0) 0 S (by omega) (by rw [yrm_pp0]; exact hm) FA.refl
def rk32M (Y : Nat → Nat → Nat) (r i : Nat) : Int32 := if r = 0 then nI (yc Y i) else if r = 1 then nI 0 else if r = 2 then -nI (Y 4 i) else nI (Y 2 i)
def rkM (Y : Nat → Nat → Nat) (r i : Nat) : Int := if r = 0 then (yc Y i : Int) else if r = 1 then 0 else if r = 2 then -(Y 4 i : Int) else (Y 2 i : Int)
theorem rkM_toInt (ho : YOk B Y) (hB : B < 1000) {r i : Nat} (hi : i < Y 6 0) : (rk32M Y r i).toInt = rkM Y r i := by
  have hb := ho.2 i (by omega)
  have hc := yc_le ho hi
  unfold rk32M rkM
  split
  · exact nI_toInt (by omega)
  · split
    · exact nI_toInt (by omega)
    · split
      · exact neg_toInt (by omega)
      · exact nI_toInt (by omega)
theorem rkM_le (ho : YOk B Y) (hB : B < 1000) {r i j : Nat} (hi : i < Y 6 0) (hj : j < Y 6 0) : (rk32M Y r j ≤ rk32M Y r i) = ¬ (rkM Y r i < rkM Y r j) := by
  rw [Int32.le_iff_toInt_le, rkM_toInt ho hB hi, rkM_toInt ho hB hj]
  exact propext Int.not_lt.symm
theorem scn_M {r w : Nat} (n : Nat) : scn (rkM Y r) w n = scn (rkY Y r) w n := by
  refine scn_cong n (fun i j hi hj => ?_)
  unfold rkM rkY
  by_cases h0 : r = 0
  · rw [if_pos h0, if_pos h0, if_pos h0, if_pos h0]
  · rw [if_neg h0, if_neg h0, if_neg h0, if_neg h0]
    by_cases h1 : r = 1
    · rw [if_pos h1, if_pos h1, if_pos h1, if_pos h1]
      omega
    · rw [if_neg h1, if_neg h1, if_neg h1, if_neg h1]
theorem c_rankOn {r i : Nat} (hk : k = 40 ∨ k = 41) (hm : YrM S k Y) (ho : YOk B Y) (hB : B < 1000) (hr : r < 4) (hi : i < Y 6 0) (q : P (some (aI (rk32M Y r i))) S) : wpM (d + 3) mX9_rankOn [aR 8 0, aR k 0, aI (nI r), aI (nI i)] S P := by
  obtain ⟨kc, kT, kL, kK, k9, kA⟩ := ofk hk
  have hn5 := ho.1.1
  unfold rk32M at q
  rcases (show r = 0 ∨ r = 1 ∨ r = 2 ∨ r = 3 by omega) with rfl | rfl | rfl | rfl
  · refine x_entry (ls2 := [aR 8 0, aR k 0, aI (nI 0), aI (nI i)]) (Nat.le_of_ble_eq_true rfl) pl_9 rfl (Nat.le_of_ble_eq_true rfl) ?_
    try simp (disch := omega) only [no0, no1, nz1, nz2, nz3, nz4, nz5, nz7, nz8, Classical.not_not, bz0, bz1, wi_nil, ld_0, ld_s, isIv_I, isLv_L, isRv_R, true_and, and_true, lset_0, lset_1, lset_s, avw_I, avw_L, avw_R, clr_cons, clr_nil, kst_0, kst_1, kstL_0, kstL_1, addk_I, pA_0, pA_s, pD_0, pD_s, wid_nil, wid_cons, rcv_c, putv_I, putv_L, List.length_cons, List.length_nil, List.set_cons_zero, List.set_cons_succ, not_false_eq_true, Nat.reduceMod, Nat.reduceDiv, Nat.reduceEqDiff, Nat.reduceLT, Nat.reduceLeDiff, Nat.reduceAdd, Nat.reduceSub, reduceIte, Nat.lt_irrefl, Nat.zero_ne_one, Nat.one_ne_zero, Nat.zero_add, List.nil_append, List.cons_append, Option.toList_some, Option.toList_none, forall_const, false_implies, true_implies, false_or, or_false, true_or, or_true, i_le, i_lt, i_eq, i_eq0, i_lt0, i_0le, i_0lt, i_le0, i_in1, i_cl, nI_add, pk_mul, pk_sub, i_div, i_rem, i_sh1, i_bit, i_or, i_and, i_andn, nt_le, nf_le, nt_lt, nf_lt, nt_eq, nf_eq, not_true_eq_false, and_self, and_false, false_and, eq_self, Bool.toNat_true, Bool.toNat_false, i_bool, i_bool1, Bool.false_eq_true, Bool.true_eq_false, reduceCtorEq, i_neg1, i_neg2, i_neg3, i_neg4, i_neg5, i_neg6, i_neg7, i_neg8, i_neg9, i_nega, i_negb, i_negc, i_max2, i_min2, k9, wi_nil]
    repeat (
      first
      | refine s_X9_rankOn_0 ?_
      | refine s_X9_rankOn_10 ?_
      | refine s_X9_rankOn_13 ?_
      | refine s_X9_rankOn_22 ?_
      | refine s_X9_rankOn_37 ?_
      | refine s_X9_rankOn_42 ?_
      simp (disch := omega) only [B_X9_rankOn_0, wi_iload_n, wi_if_ne, wi_aload_n, wi_invokevirtual, cnt_8, B_X9_rankOn_10, wi_goto, B_X9_rankOn_13, wi_iconst, wi_icmp_ne, B_X9_rankOn_22, wi_bipush, wi_iadd, wi_iaload, wi_ineg, B_X9_rankOn_37, B_X9_rankOn_42, wi_ireturn, no0, no1, nz1, nz2, nz3, nz4, nz5, nz7, nz8, Classical.not_not, bz0, bz1, wi_nil, ld_0, ld_s, isIv_I, isLv_L, isRv_R, true_and, and_true, lset_0, lset_1, lset_s, avw_I, avw_L, avw_R, clr_cons, clr_nil, kst_0, kst_1, kstL_0, kstL_1, addk_I, pA_0, pA_s, pD_0, pD_s, wid_nil, wid_cons, rcv_c, putv_I, putv_L, List.length_cons, List.length_nil, List.set_cons_zero, List.set_cons_succ, not_false_eq_true, Nat.reduceMod, Nat.reduceDiv, Nat.reduceEqDiff, Nat.reduceLT, Nat.reduceLeDiff, Nat.reduceAdd, Nat.reduceSub, reduceIte, Nat.lt_irrefl, Nat.zero_ne_one, Nat.one_ne_zero, Nat.zero_add, List.nil_append, List.cons_append, Option.toList_some, Option.toList_none, forall_const, false_implies, true_implies, false_or, or_false, true_or, or_true, i_le, i_lt, i_eq, i_eq0, i_lt0, i_0le, i_0lt, i_le0, i_in1, i_cl, nI_add, pk_mul, pk_sub, i_div, i_rem, i_sh1, i_bit, i_or, i_and, i_andn, nt_le, nf_le, nt_lt, nf_lt, nt_eq, nf_eq, not_true_eq_false, and_self, and_false, false_and, eq_self, Bool.toNat_true, Bool.toNat_false, i_bool, i_bool1, Bool.false_eq_true, Bool.true_eq_false, reduceCtorEq, i_neg1, i_neg2, i_neg3, i_neg4, i_neg5, i_neg6, i_neg7, i_neg8, i_neg9, i_nega, i_negb, i_negc, i_max2, i_min2, k9])
    refine c_costOn hk hm ho hB hi ?_
    try simp (disch := omega) only [no0, no1, nz1, nz2, nz3, nz4, nz5, nz7, nz8, Classical.not_not, bz0, bz1, wi_nil, ld_0, ld_s, isIv_I, isLv_L, isRv_R, true_and, and_true, lset_0, lset_1, lset_s, avw_I, avw_L, avw_R, clr_cons, clr_nil, kst_0, kst_1, kstL_0, kstL_1, addk_I, pA_0, pA_s, pD_0, pD_s, wid_nil, wid_cons, rcv_c, putv_I, putv_L, List.length_cons, List.length_nil, List.set_cons_zero, List.set_cons_succ, not_false_eq_true, Nat.reduceMod, Nat.reduceDiv, Nat.reduceEqDiff, Nat.reduceLT, Nat.reduceLeDiff, Nat.reduceAdd, Nat.reduceSub, reduceIte, Nat.lt_irrefl, Nat.zero_ne_one, Nat.one_ne_zero, Nat.zero_add, List.nil_append, List.cons_append, Option.toList_some, Option.toList_none, forall_const, false_implies, true_implies, false_or, or_false, true_or, or_true, i_le, i_lt, i_eq, i_eq0, i_lt0, i_0le, i_0lt, i_le0, i_in1, i_cl, nI_add, pk_mul, pk_sub, i_div, i_rem, i_sh1, i_bit, i_or, i_and, i_andn, nt_le, nf_le, nt_lt, nf_lt, nt_eq, nf_eq, not_true_eq_false, and_self, and_false, false_and, eq_self, Bool.toNat_true, Bool.toNat_false, i_bool, i_bool1, Bool.false_eq_true, Bool.true_eq_false, reduceCtorEq, i_neg1, i_neg2, i_neg3, i_neg4, i_neg5, i_neg6, i_neg7, i_neg8, i_neg9, i_nega, i_negb, i_negc, i_max2, i_min2, wi_nil]
    repeat (
      first
      | refine s_X9_rankOn_0 ?_
      | refine s_X9_rankOn_10 ?_
      | refine s_X9_rankOn_13 ?_
      | refine s_X9_rankOn_22 ?_
      | refine s_X9_rankOn_37 ?_
      | refine s_X9_rankOn_42 ?_
      simp (disch := omega) only [B_X9_rankOn_0, wi_iload_n, wi_if_ne, wi_aload_n, wi_invokevirtual, cnt_8, B_X9_rankOn_10, wi_goto, B_X9_rankOn_13, wi_iconst, wi_icmp_ne, B_X9_rankOn_22, wi_bipush, wi_iadd, wi_iaload, wi_ineg, B_X9_rankOn_37, B_X9_rankOn_42, wi_ireturn, no0, no1, nz1, nz2, nz3, nz4, nz5, nz7, nz8, Classical.not_not, bz0, bz1, wi_nil, ld_0, ld_s, isIv_I, isLv_L, isRv_R, true_and, and_true, lset_0, lset_1, lset_s, avw_I, avw_L, avw_R, clr_cons, clr_nil, kst_0, kst_1, kstL_0, kstL_1, addk_I, pA_0, pA_s, pD_0, pD_s, wid_nil, wid_cons, rcv_c, putv_I, putv_L, List.length_cons, List.length_nil, List.set_cons_zero, List.set_cons_succ, not_false_eq_true, Nat.reduceMod, Nat.reduceDiv, Nat.reduceEqDiff, Nat.reduceLT, Nat.reduceLeDiff, Nat.reduceAdd, Nat.reduceSub, reduceIte, Nat.lt_irrefl, Nat.zero_ne_one, Nat.one_ne_zero, Nat.zero_add, List.nil_append, List.cons_append, Option.toList_some, Option.toList_none, forall_const, false_implies, true_implies, false_or, or_false, true_or, or_true, i_le, i_lt, i_eq, i_eq0, i_lt0, i_0le, i_0lt, i_le0, i_in1, i_cl, nI_add, pk_mul, pk_sub, i_div, i_rem, i_sh1, i_bit, i_or, i_and, i_andn, nt_le, nf_le, nt_lt, nf_lt, nt_eq, nf_eq, not_true_eq_false, and_self, and_false, false_and, eq_self, Bool.toNat_true, Bool.toNat_false, i_bool, i_bool1, Bool.false_eq_true, Bool.true_eq_false, reduceCtorEq, i_neg1, i_neg2, i_neg3, i_neg4, i_neg5, i_neg6, i_neg7, i_neg8, i_neg9, i_nega, i_negb, i_negc, i_max2, i_min2])
    exact q
  · refine x_entry (ls2 := [aR 8 0, aR k 0, aI (nI 1), aI (nI i)]) (Nat.le_of_ble_eq_true rfl) pl_9 rfl (Nat.le_of_ble_eq_true rfl) ?_
    try simp (disch := omega) only [no0, no1, nz1, nz2, nz3, nz4, nz5, nz7, nz8, Classical.not_not, bz0, bz1, wi_nil, ld_0, ld_s, isIv_I, isLv_L, isRv_R, true_and, and_true, lset_0, lset_1, lset_s, avw_I, avw_L, avw_R, clr_cons, clr_nil, kst_0, kst_1, kstL_0, kstL_1, addk_I, pA_0, pA_s, pD_0, pD_s, wid_nil, wid_cons, rcv_c, putv_I, putv_L, List.length_cons, List.length_nil, List.set_cons_zero, List.set_cons_succ, not_false_eq_true, Nat.reduceMod, Nat.reduceDiv, Nat.reduceEqDiff, Nat.reduceLT, Nat.reduceLeDiff, Nat.reduceAdd, Nat.reduceSub, reduceIte, Nat.lt_irrefl, Nat.zero_ne_one, Nat.one_ne_zero, Nat.zero_add, List.nil_append, List.cons_append, Option.toList_some, Option.toList_none, forall_const, false_implies, true_implies, false_or, or_false, true_or, or_true, i_le, i_lt, i_eq, i_eq0, i_lt0, i_0le, i_0lt, i_le0, i_in1, i_cl, nI_add, pk_mul, pk_sub, i_div, i_rem, i_sh1, i_bit, i_or, i_and, i_andn, nt_le, nf_le, nt_lt, nf_lt, nt_eq, nf_eq, not_true_eq_false, and_self, and_false, false_and, eq_self, Bool.toNat_true, Bool.toNat_false, i_bool, i_bool1, Bool.false_eq_true, Bool.true_eq_false, reduceCtorEq, i_neg1, i_neg2, i_neg3, i_neg4, i_neg5, i_neg6, i_neg7, i_neg8, i_neg9, i_nega, i_negb, i_negc, i_max2, i_min2, k9, wi_nil]
    repeat (
      first
      | refine s_X9_rankOn_0 ?_
      | refine s_X9_rankOn_10 ?_
      | refine s_X9_rankOn_13 ?_
      | refine s_X9_rankOn_22 ?_
      | refine s_X9_rankOn_37 ?_
      | refine s_X9_rankOn_42 ?_
      simp (disch := omega) only [B_X9_rankOn_0, wi_iload_n, wi_if_ne, wi_aload_n, wi_invokevirtual, cnt_8, B_X9_rankOn_10, wi_goto, B_X9_rankOn_13, wi_iconst, wi_icmp_ne, B_X9_rankOn_22, wi_bipush, wi_iadd, wi_iaload, wi_ineg, B_X9_rankOn_37, B_X9_rankOn_42, wi_ireturn, no0, no1, nz1, nz2, nz3, nz4, nz5, nz7, nz8, Classical.not_not, bz0, bz1, wi_nil, ld_0, ld_s, isIv_I, isLv_L, isRv_R, true_and, and_true, lset_0, lset_1, lset_s, avw_I, avw_L, avw_R, clr_cons, clr_nil, kst_0, kst_1, kstL_0, kstL_1, addk_I, pA_0, pA_s, pD_0, pD_s, wid_nil, wid_cons, rcv_c, putv_I, putv_L, List.length_cons, List.length_nil, List.set_cons_zero, List.set_cons_succ, not_false_eq_true, Nat.reduceMod, Nat.reduceDiv, Nat.reduceEqDiff, Nat.reduceLT, Nat.reduceLeDiff, Nat.reduceAdd, Nat.reduceSub, reduceIte, Nat.lt_irrefl, Nat.zero_ne_one, Nat.one_ne_zero, Nat.zero_add, List.nil_append, List.cons_append, Option.toList_some, Option.toList_none, forall_const, false_implies, true_implies, false_or, or_false, true_or, or_true, i_le, i_lt, i_eq, i_eq0, i_lt0, i_0le, i_0lt, i_le0, i_in1, i_cl, nI_add, pk_mul, pk_sub, i_div, i_rem, i_sh1, i_bit, i_or, i_and, i_andn, nt_le, nf_le, nt_lt, nf_lt, nt_eq, nf_eq, not_true_eq_false, and_self, and_false, false_and, eq_self, Bool.toNat_true, Bool.toNat_false, i_bool, i_bool1, Bool.false_eq_true, Bool.true_eq_false, reduceCtorEq, i_neg1, i_neg2, i_neg3, i_neg4, i_neg5, i_neg6, i_neg7, i_neg8, i_neg9, i_nega, i_negb, i_negc, i_max2, i_min2, k9])
    exact q
  · refine x_entry (ls2 := [aR 8 0, aR k 0, aI (nI 2), aI (nI i)]) (Nat.le_of_ble_eq_true rfl) pl_9 rfl (Nat.le_of_ble_eq_true rfl) ?_
    try simp (disch := omega) only [no0, no1, nz1, nz2, nz3, nz4, nz5, nz7, nz8, Classical.not_not, bz0, bz1, wi_nil, ld_0, ld_s, isIv_I, isLv_L, isRv_R, true_and, and_true, lset_0, lset_1, lset_s, avw_I, avw_L, avw_R, clr_cons, clr_nil, kst_0, kst_1, kstL_0, kstL_1, addk_I, pA_0, pA_s, pD_0, pD_s, wid_nil, wid_cons, rcv_c, putv_I, putv_L, List.length_cons, List.length_nil, List.set_cons_zero, List.set_cons_succ, not_false_eq_true, Nat.reduceMod, Nat.reduceDiv, Nat.reduceEqDiff, Nat.reduceLT, Nat.reduceLeDiff, Nat.reduceAdd, Nat.reduceSub, reduceIte, Nat.lt_irrefl, Nat.zero_ne_one, Nat.one_ne_zero, Nat.zero_add, List.nil_append, List.cons_append, Option.toList_some, Option.toList_none, forall_const, false_implies, true_implies, false_or, or_false, true_or, or_true, i_le, i_lt, i_eq, i_eq0, i_lt0, i_0le, i_0lt, i_le0, i_in1, i_cl, nI_add, pk_mul, pk_sub, i_div, i_rem, i_sh1, i_bit, i_or, i_and, i_andn, nt_le, nf_le, nt_lt, nf_lt, nt_eq, nf_eq, not_true_eq_false, and_self, and_false, false_and, eq_self, Bool.toNat_true, Bool.toNat_false, i_bool, i_bool1, Bool.false_eq_true, Bool.true_eq_false, reduceCtorEq, i_neg1, i_neg2, i_neg3, i_neg4, i_neg5, i_neg6, i_neg7, i_neg8, i_neg9, i_nega, i_negb, i_negc, i_max2, i_min2, (m_ch hm), kc, kT, kL, kK, k9, kA, wi_nil]
    repeat (
      first
      | refine s_X9_rankOn_0 ?_
      | refine s_X9_rankOn_10 ?_
      | refine s_X9_rankOn_13 ?_
      | refine s_X9_rankOn_22 ?_
      | refine s_X9_rankOn_37 ?_
      | refine s_X9_rankOn_42 ?_
      simp (disch := omega) only [B_X9_rankOn_0, wi_iload_n, wi_if_ne, wi_aload_n, wi_invokevirtual, cnt_8, B_X9_rankOn_10, wi_goto, B_X9_rankOn_13, wi_iconst, wi_icmp_ne, B_X9_rankOn_22, wi_bipush, wi_iadd, wi_iaload, wi_ineg, B_X9_rankOn_37, B_X9_rankOn_42, wi_ireturn, no0, no1, nz1, nz2, nz3, nz4, nz5, nz7, nz8, Classical.not_not, bz0, bz1, wi_nil, ld_0, ld_s, isIv_I, isLv_L, isRv_R, true_and, and_true, lset_0, lset_1, lset_s, avw_I, avw_L, avw_R, clr_cons, clr_nil, kst_0, kst_1, kstL_0, kstL_1, addk_I, pA_0, pA_s, pD_0, pD_s, wid_nil, wid_cons, rcv_c, putv_I, putv_L, List.length_cons, List.length_nil, List.set_cons_zero, List.set_cons_succ, not_false_eq_true, Nat.reduceMod, Nat.reduceDiv, Nat.reduceEqDiff, Nat.reduceLT, Nat.reduceLeDiff, Nat.reduceAdd, Nat.reduceSub, reduceIte, Nat.lt_irrefl, Nat.zero_ne_one, Nat.one_ne_zero, Nat.zero_add, List.nil_append, List.cons_append, Option.toList_some, Option.toList_none, forall_const, false_implies, true_implies, false_or, or_false, true_or, or_true, i_le, i_lt, i_eq, i_eq0, i_lt0, i_0le, i_0lt, i_le0, i_in1, i_cl, nI_add, pk_mul, pk_sub, i_div, i_rem, i_sh1, i_bit, i_or, i_and, i_andn, nt_le, nf_le, nt_lt, nf_lt, nt_eq, nf_eq, not_true_eq_false, and_self, and_false, false_and, eq_self, Bool.toNat_true, Bool.toNat_false, i_bool, i_bool1, Bool.false_eq_true, Bool.true_eq_false, reduceCtorEq, i_neg1, i_neg2, i_neg3, i_neg4, i_neg5, i_neg6, i_neg7, i_neg8, i_neg9, i_nega, i_negb, i_negc, i_max2, i_min2, (m_ch hm), kc, kT, kL, kK, k9, kA])
    exact q
  · refine x_entry (ls2 := [aR 8 0, aR k 0, aI (nI 3), aI (nI i)]) (Nat.le_of_ble_eq_true rfl) pl_9 rfl (Nat.le_of_ble_eq_true rfl) ?_
    try simp (disch := omega) only [no0, no1, nz1, nz2, nz3, nz4, nz5, nz7, nz8, Classical.not_not, bz0, bz1, wi_nil, ld_0, ld_s, isIv_I, isLv_L, isRv_R, true_and, and_true, lset_0, lset_1, lset_s, avw_I, avw_L, avw_R, clr_cons, clr_nil, kst_0, kst_1, kstL_0, kstL_1, addk_I, pA_0, pA_s, pD_0, pD_s, wid_nil, wid_cons, rcv_c, putv_I, putv_L, List.length_cons, List.length_nil, List.set_cons_zero, List.set_cons_succ, not_false_eq_true, Nat.reduceMod, Nat.reduceDiv, Nat.reduceEqDiff, Nat.reduceLT, Nat.reduceLeDiff, Nat.reduceAdd, Nat.reduceSub, reduceIte, Nat.lt_irrefl, Nat.zero_ne_one, Nat.one_ne_zero, Nat.zero_add, List.nil_append, List.cons_append, Option.toList_some, Option.toList_none, forall_const, false_implies, true_implies, false_or, or_false, true_or, or_true, i_le, i_lt, i_eq, i_eq0, i_lt0, i_0le, i_0lt, i_le0, i_in1, i_cl, nI_add, pk_mul, pk_sub, i_div, i_rem, i_sh1, i_bit, i_or, i_and, i_andn, nt_le, nf_le, nt_lt, nf_lt, nt_eq, nf_eq, not_true_eq_false, and_self, and_false, false_and, eq_self, Bool.toNat_true, Bool.toNat_false, i_bool, i_bool1, Bool.false_eq_true, Bool.true_eq_false, reduceCtorEq, i_neg1, i_neg2, i_neg3, i_neg4, i_neg5, i_neg6, i_neg7, i_neg8, i_neg9, i_nega, i_negb, i_negc, i_max2, i_min2, (m_hab hm), kc, kT, kL, kK, k9, kA, wi_nil]
    repeat (
      first
      | refine s_X9_rankOn_0 ?_
      | refine s_X9_rankOn_10 ?_
      | refine s_X9_rankOn_13 ?_
      | refine s_X9_rankOn_22 ?_
      | refine s_X9_rankOn_37 ?_
      | refine s_X9_rankOn_42 ?_
      simp (disch := omega) only [B_X9_rankOn_0, wi_iload_n, wi_if_ne, wi_aload_n, wi_invokevirtual, cnt_8, B_X9_rankOn_10, wi_goto, B_X9_rankOn_13, wi_iconst, wi_icmp_ne, B_X9_rankOn_22, wi_bipush, wi_iadd, wi_iaload, wi_ineg, B_X9_rankOn_37, B_X9_rankOn_42, wi_ireturn, no0, no1, nz1, nz2, nz3, nz4, nz5, nz7, nz8, Classical.not_not, bz0, bz1, wi_nil, ld_0, ld_s, isIv_I, isLv_L, isRv_R, true_and, and_true, lset_0, lset_1, lset_s, avw_I, avw_L, avw_R, clr_cons, clr_nil, kst_0, kst_1, kstL_0, kstL_1, addk_I, pA_0, pA_s, pD_0, pD_s, wid_nil, wid_cons, rcv_c, putv_I, putv_L, List.length_cons, List.length_nil, List.set_cons_zero, List.set_cons_succ, not_false_eq_true, Nat.reduceMod, Nat.reduceDiv, Nat.reduceEqDiff, Nat.reduceLT, Nat.reduceLeDiff, Nat.reduceAdd, Nat.reduceSub, reduceIte, Nat.lt_irrefl, Nat.zero_ne_one, Nat.one_ne_zero, Nat.zero_add, List.nil_append, List.cons_append, Option.toList_some, Option.toList_none, forall_const, false_implies, true_implies, false_or, or_false, true_or, or_true, i_le, i_lt, i_eq, i_eq0, i_lt0, i_0le, i_0lt, i_le0, i_in1, i_cl, nI_add, pk_mul, pk_sub, i_div, i_rem, i_sh1, i_bit, i_or, i_and, i_andn, nt_le, nf_le, nt_lt, nf_lt, nt_eq, nf_eq, not_true_eq_false, and_self, and_false, false_and, eq_self, Bool.toNat_true, Bool.toNat_false, i_bool, i_bool1, Bool.false_eq_true, Bool.true_eq_false, reduceCtorEq, i_neg1, i_neg2, i_neg3, i_neg4, i_neg5, i_neg6, i_neg7, i_neg8, i_neg9, i_nega, i_negb, i_negc, i_max2, i_min2, (m_hab hm), kc, kT, kL, kK, k9, kA])
    exact q
end
