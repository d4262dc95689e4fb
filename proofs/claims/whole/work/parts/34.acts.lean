-- PART 34: acts: one more act on both sides; day
theorem put_step {f g : Nat → Int32} {a n m : Nat} (h : m < n) : fb_put (upd f (a + m) (g m)) (fun p => g (p + (m + 1))) (a + (m + 1)) (n - (m + 1)) = fb_put f (fun p => g (p + m)) (a + m) (n - m) := by
  funext x
  by_cases h1 : x = a + m
  · subst h1
    rw [fb_put_out (by omega), pk_us, fb_put_in (by omega) (by omega)]
    congr 1
    omega
  · by_cases h2 : a + (m + 1) ≤ x ∧ x < a + (m + 1) + (n - (m + 1))
    · rw [fb_put_in h2.1 h2.2, fb_put_in (by omega) (by omega)]
      congr 1
      omega
    · rw [fb_put_out (by omega), fb_put_out (by omega), pk_un h1]
theorem yrx_sA {S : MS} {j k i : Nat} {r : Nat → Int32} {Y : Nat → Nat → Nat} (h : YrX S j Y) (hk : ¬ (20 ≤ k ∧ k ≤ 25)) : YrX (sA S k i r) j Y := ⟨fun g hg t ht => by rw [gA_sA, if_neg (by omega)]; exact h.1 g hg t ht, h.2⟩
theorem yrx_sI {S : MS} {j k i f : Nat} {v : Int32} {Y : Nat → Nat → Nat} (h : YrX S j Y) (hk : ¬ k = 6) : YrX (sI S k i f v) j Y := ⟨h.1, fun t ht => by rw [gI_sI, if_neg (by omega)]; exact h.2 t ht⟩
theorem f7_fy {S T : MS} (h : FY 1 S T) : Fr (pN 7) S T := by
  refine ⟨fun k i f q => h.1 k i f (fun e => ?_), fun k i f _ => h.2.1 k i f, fun k i q => h.2.2 k i (fun e => ?_)⟩
  · rw [e.1, e.2] at q; cases q
  · have e3 : i = 1 := e.2.2
    subst e3
    rcases Nat.lt_or_ge k 26 with a | a
    · obtain ⟨g, rfl⟩ := Nat.exists_eq_add_of_le e.1
      rw [cA_1 (by omega)] at q
      cases q
    · have e4 : k = 26 := by omega
      subst e4
      cases q
section
variable {d B : Nat} {S : MS} {Y Y0 : Nat → Nat → Nat} {P : Option AV → MS → Prop} {as : List Nat} {kp : Nat → Option (List Nat)}
theorem c_act {p : Nat} (hx : XAc S as) (hl : as.length < 40) (hy : YrX S 1 Y) (ho : YOk B Y) (hB : B < 900) (ha : AOk Y p) (q : ∀ S2, XAc S2 (as ++ [p]) → YrX S2 1 (flY Y p) → Fr (pN 7) S S2 → P none S2) : wpM (d + 5) mX8_act [aR 7 0, aI (nI p)] S P := by
  refine x_entry (ls2 := [aR 7 0, aI (nI p)]) (Nat.le_of_ble_eq_true rfl) pl_8 rfl (Nat.le_of_ble_eq_true rfl) ?_
  try simp (disch := omega) only [no0, no1, nz1, nz2, nz3, nz4, nz5, nz7, nz8, Classical.not_not, bz0, bz1, wi_nil, ld_0, ld_s, isIv_I, isLv_L, isRv_R, true_and, and_true, lset_0, lset_1, lset_s, avw_I, avw_L, avw_R, clr_cons, clr_nil, kst_0, kst_1, kstL_0, kstL_1, addk_I, pA_0, pA_s, pD_0, pD_s, wid_nil, wid_cons, rcv_c, putv_I, putv_L, List.length_cons, List.length_nil, List.set_cons_zero, List.set_cons_succ, not_false_eq_true, Nat.reduceMod, Nat.reduceDiv, Nat.reduceEqDiff, Nat.reduceLT, Nat.reduceLeDiff, Nat.reduceAdd, Nat.reduceSub, reduceIte, Nat.lt_irrefl, Nat.zero_ne_one, Nat.one_ne_zero, Nat.zero_add, List.nil_append, List.cons_append, Option.toList_some, Option.toList_none, forall_const, false_implies, true_implies, false_or, or_false, true_or, or_true, i_le, i_lt, i_eq, i_eq0, i_lt0, i_0le, i_0lt, i_le0, i_in1, i_cl, nI_add, pk_mul, pk_sub, i_div, i_rem, i_sh1, i_bit, i_or, i_and, i_andn, nt_le, nf_le, nt_lt, nf_lt, nt_eq, nf_eq, not_true_eq_false, and_self, and_false, false_and, eq_self, Bool.toNat_true, Bool.toNat_false, i_bool, i_bool1, Bool.false_eq_true, Bool.true_eq_false, reduceCtorEq, i_neg1, i_neg2, i_neg3, i_neg4, i_neg5, i_neg6, i_neg7, i_neg8, i_neg9, i_nega, i_negb, i_negc, i_max2, i_min2, wi_nil]
  repeat (
    first
    | refine s_X8_act_0 ?_
    | refine s_X8_act_8 ?_
    | refine s_X8_act_16 ?_
    simp (disch := omega) only [B_X8_act_0, wi_aload_n, wi_getfield, fldv_7_6, fds_7_6, cnt_7, wi_iload_n, wi_invokevirtual, cnt_0, B_X8_act_8, fldv_7_3, fds_7_3, cnt_6, B_X8_act_16, wi_return_, no0, no1, nz1, nz2, nz3, nz4, nz5, nz7, nz8, Classical.not_not, bz0, bz1, wi_nil, ld_0, ld_s, isIv_I, isLv_L, isRv_R, true_and, and_true, lset_0, lset_1, lset_s, avw_I, avw_L, avw_R, clr_cons, clr_nil, kst_0, kst_1, kstL_0, kstL_1, addk_I, pA_0, pA_s, pD_0, pD_s, wid_nil, wid_cons, rcv_c, putv_I, putv_L, List.length_cons, List.length_nil, List.set_cons_zero, List.set_cons_succ, not_false_eq_true, Nat.reduceMod, Nat.reduceDiv, Nat.reduceEqDiff, Nat.reduceLT, Nat.reduceLeDiff, Nat.reduceAdd, Nat.reduceSub, reduceIte, Nat.lt_irrefl, Nat.zero_ne_one, Nat.one_ne_zero, Nat.zero_add, List.nil_append, List.cons_append, Option.toList_some, Option.toList_none, forall_const, false_implies, true_implies, false_or, or_false, true_or, or_true, i_le, i_lt, i_eq, i_eq0, i_lt0, i_0le, i_0lt, i_le0, i_in1, i_cl, nI_add, pk_mul, pk_sub, i_div, i_rem, i_sh1, i_bit, i_or, i_and, i_andn, nt_le, nf_le, nt_lt, nf_lt, nt_eq, nf_eq, not_true_eq_false, and_self, and_false, false_and, eq_self, Bool.toNat_true, Bool.toNat_false, i_bool, i_bool1, Bool.false_eq_true, Bool.true_eq_false, reduceCtorEq, i_neg1, i_neg2, i_neg3, i_neg4, i_neg5, i_neg6, i_neg7, i_neg8, i_neg9, i_nega, i_negb, i_negc, i_max2, i_min2])
  refine c_add hx.1 hl ?_
  try simp (disch := omega) only [no0, no1, nz1, nz2, nz3, nz4, nz5, nz7, nz8, Classical.not_not, bz0, bz1, wi_nil, ld_0, ld_s, isIv_I, isLv_L, isRv_R, true_and, and_true, lset_0, lset_1, lset_s, avw_I, avw_L, avw_R, clr_cons, clr_nil, kst_0, kst_1, kstL_0, kstL_1, addk_I, pA_0, pA_s, pD_0, pD_s, wid_nil, wid_cons, rcv_c, putv_I, putv_L, List.length_cons, List.length_nil, List.set_cons_zero, List.set_cons_succ, not_false_eq_true, Nat.reduceMod, Nat.reduceDiv, Nat.reduceEqDiff, Nat.reduceLT, Nat.reduceLeDiff, Nat.reduceAdd, Nat.reduceSub, reduceIte, Nat.lt_irrefl, Nat.zero_ne_one, Nat.one_ne_zero, Nat.zero_add, List.nil_append, List.cons_append, Option.toList_some, Option.toList_none, forall_const, false_implies, true_implies, false_or, or_false, true_or, or_true, i_le, i_lt, i_eq, i_eq0, i_lt0, i_0le, i_0lt, i_le0, i_in1, i_cl, nI_add, pk_mul, pk_sub, i_div, i_rem, i_sh1, i_bit, i_or, i_and, i_andn, nt_le, nf_le, nt_lt, nf_lt, nt_eq, nf_eq, not_true_eq_false, and_self, and_false, false_and, eq_self, Bool.toNat_true, Bool.toNat_false, i_bool, i_bool1, Bool.false_eq_true, Bool.true_eq_false, reduceCtorEq, i_neg1, i_neg2, i_neg3, i_neg4, i_neg5, i_neg6, i_neg7, i_neg8, i_neg9, i_nega, i_negb, i_negc, i_max2, i_min2, wi_nil]
  repeat (
    first
    | refine s_X8_act_0 ?_
    | refine s_X8_act_8 ?_
    | refine s_X8_act_16 ?_
    simp (disch := omega) only [B_X8_act_0, wi_aload_n, wi_getfield, fldv_7_6, fds_7_6, cnt_7, wi_iload_n, wi_invokevirtual, cnt_0, B_X8_act_8, fldv_7_3, fds_7_3, cnt_6, B_X8_act_16, wi_return_, no0, no1, nz1, nz2, nz3, nz4, nz5, nz7, nz8, Classical.not_not, bz0, bz1, wi_nil, ld_0, ld_s, isIv_I, isLv_L, isRv_R, true_and, and_true, lset_0, lset_1, lset_s, avw_I, avw_L, avw_R, clr_cons, clr_nil, kst_0, kst_1, kstL_0, kstL_1, addk_I, pA_0, pA_s, pD_0, pD_s, wid_nil, wid_cons, rcv_c, putv_I, putv_L, List.length_cons, List.length_nil, List.set_cons_zero, List.set_cons_succ, not_false_eq_true, Nat.reduceMod, Nat.reduceDiv, Nat.reduceEqDiff, Nat.reduceLT, Nat.reduceLeDiff, Nat.reduceAdd, Nat.reduceSub, reduceIte, Nat.lt_irrefl, Nat.zero_ne_one, Nat.one_ne_zero, Nat.zero_add, List.nil_append, List.cons_append, Option.toList_some, Option.toList_none, forall_const, false_implies, true_implies, false_or, or_false, true_or, or_true, i_le, i_lt, i_eq, i_eq0, i_lt0, i_0le, i_0lt, i_le0, i_in1, i_cl, nI_add, pk_mul, pk_sub, i_div, i_rem, i_sh1, i_bit, i_or, i_and, i_andn, nt_le, nf_le, nt_lt, nf_lt, nt_eq, nf_eq, not_true_eq_false, and_self, and_false, false_and, eq_self, Bool.toNat_true, Bool.toNat_false, i_bool, i_bool1, Bool.false_eq_true, Bool.true_eq_false, reduceCtorEq, i_neg1, i_neg2, i_neg3, i_neg4, i_neg5, i_neg6, i_neg7, i_neg8, i_neg9, i_nega, i_negb, i_negc, i_max2, i_min2])
  have hy2 : YrX (sI (sA S 10 0 (upd (gA S 10 0) as.length (nI p))) 0 0 3 (nI (as.length + 1))) 1 Y := yrx_sI (yrx_sA hy (by decide)) (by decide)
  refine c_follow (by decide) hy2 ho hB ha (fun S2 y2 f2 => ?_)
  try simp (disch := omega) only [no0, no1, nz1, nz2, nz3, nz4, nz5, nz7, nz8, Classical.not_not, bz0, bz1, wi_nil, ld_0, ld_s, isIv_I, isLv_L, isRv_R, true_and, and_true, lset_0, lset_1, lset_s, avw_I, avw_L, avw_R, clr_cons, clr_nil, kst_0, kst_1, kstL_0, kstL_1, addk_I, pA_0, pA_s, pD_0, pD_s, wid_nil, wid_cons, rcv_c, putv_I, putv_L, List.length_cons, List.length_nil, List.set_cons_zero, List.set_cons_succ, not_false_eq_true, Nat.reduceMod, Nat.reduceDiv, Nat.reduceEqDiff, Nat.reduceLT, Nat.reduceLeDiff, Nat.reduceAdd, Nat.reduceSub, reduceIte, Nat.lt_irrefl, Nat.zero_ne_one, Nat.one_ne_zero, Nat.zero_add, List.nil_append, List.cons_append, Option.toList_some, Option.toList_none, forall_const, false_implies, true_implies, false_or, or_false, true_or, or_true, i_le, i_lt, i_eq, i_eq0, i_lt0, i_0le, i_0lt, i_le0, i_in1, i_cl, nI_add, pk_mul, pk_sub, i_div, i_rem, i_sh1, i_bit, i_or, i_and, i_andn, nt_le, nf_le, nt_lt, nf_lt, nt_eq, nf_eq, not_true_eq_false, and_self, and_false, false_and, eq_self, Bool.toNat_true, Bool.toNat_false, i_bool, i_bool1, Bool.false_eq_true, Bool.true_eq_false, reduceCtorEq, i_neg1, i_neg2, i_neg3, i_neg4, i_neg5, i_neg6, i_neg7, i_neg8, i_neg9, i_nega, i_negb, i_negc, i_max2, i_min2, wi_nil]
  repeat (
    first
    | refine s_X8_act_0 ?_
    | refine s_X8_act_8 ?_
    | refine s_X8_act_16 ?_
    simp (disch := omega) only [B_X8_act_0, wi_aload_n, wi_getfield, fldv_7_6, fds_7_6, cnt_7, wi_iload_n, wi_invokevirtual, cnt_0, B_X8_act_8, fldv_7_3, fds_7_3, cnt_6, B_X8_act_16, wi_return_, no0, no1, nz1, nz2, nz3, nz4, nz5, nz7, nz8, Classical.not_not, bz0, bz1, wi_nil, ld_0, ld_s, isIv_I, isLv_L, isRv_R, true_and, and_true, lset_0, lset_1, lset_s, avw_I, avw_L, avw_R, clr_cons, clr_nil, kst_0, kst_1, kstL_0, kstL_1, addk_I, pA_0, pA_s, pD_0, pD_s, wid_nil, wid_cons, rcv_c, putv_I, putv_L, List.length_cons, List.length_nil, List.set_cons_zero, List.set_cons_succ, not_false_eq_true, Nat.reduceMod, Nat.reduceDiv, Nat.reduceEqDiff, Nat.reduceLT, Nat.reduceLeDiff, Nat.reduceAdd, Nat.reduceSub, reduceIte, Nat.lt_irrefl, Nat.zero_ne_one, Nat.one_ne_zero, Nat.zero_add, List.nil_append, List.cons_append, Option.toList_some, Option.toList_none, forall_const, false_implies, true_implies, false_or, or_false, true_or, or_true, i_le, i_lt, i_eq, i_eq0, i_lt0, i_0le, i_0lt, i_le0, i_in1, i_cl, nI_add, pk_mul, pk_sub, i_div, i_rem, i_sh1, i_bit, i_or, i_and, i_andn, nt_le, nf_le, nt_lt, nf_lt, nt_eq, nf_eq, not_true_eq_false, and_self, and_false, false_and, eq_self, Bool.toNat_true, Bool.toNat_false, i_bool, i_bool1, Bool.false_eq_true, Bool.true_eq_false, reduceCtorEq, i_neg1, i_neg2, i_neg3, i_neg4, i_neg5, i_neg6, i_neg7, i_neg8, i_neg9, i_nega, i_negb, i_negc, i_max2, i_min2])
  refine q S2 ⟨?_, fun i hi => ?_⟩ y2 (((fr_sA rfl).trans (fr_sI rfl)).trans (f7_fy f2))
  · rw [f2.1 0 0 3 (by decide), List.length_append]
    rfl
  · rw [f2.2.2 10 0 (by decide)]
    show upd (gA S 10 0) as.length (nI p) i = _
    rw [List.length_append] at hi
    have hi : i < as.length + 1 := hi
    by_cases e : i = as.length
    · subst e
      rw [pk_us, List.getD_eq_getElem?_getD, List.getElem?_append_right (Nat.le_refl _), Nat.sub_self]
      rfl
    · rw [pk_un e, hx.2 i (by omega), List.getD_eq_getElem?_getD, List.getD_eq_getElem?_getD, List.getElem?_append_left (by omega)]
theorem l_remember {L : Nat} (hL : L < 40) : ∀ (m i : Nat) (S : MS), i + m = 19 → gI S 8 0 22 = nI L → P none (sI (sA S 42 0 (fb_put (gA S 42 0) (fun p => gA S 40 0 (p + i)) (19 * L + i) (19 - i))) 8 0 22 (nI (L + 1))) → wpX d mX9_remember 2 [aR 8 0, aI (nI i)] [] S P := by
  intro m
  induction m with
  | zero =>
    intro i S hi h22 q
    have e : i = 19 := by omega
    subst e
    rw [Nat.sub_self, fb_put_0, sA_self] at q
    try simp (disch := omega) only [no0, no1, nz1, nz2, nz3, nz4, nz5, nz7, nz8, Classical.not_not, bz0, bz1, wi_nil, ld_0, ld_s, isIv_I, isLv_L, isRv_R, true_and, and_true, lset_0, lset_1, lset_s, avw_I, avw_L, avw_R, clr_cons, clr_nil, kst_0, kst_1, kstL_0, kstL_1, addk_I, pA_0, pA_s, pD_0, pD_s, wid_nil, wid_cons, rcv_c, putv_I, putv_L, List.length_cons, List.length_nil, List.set_cons_zero, List.set_cons_succ, not_false_eq_true, Nat.reduceMod, Nat.reduceDiv, Nat.reduceEqDiff, Nat.reduceLT, Nat.reduceLeDiff, Nat.reduceAdd, Nat.reduceSub, reduceIte, Nat.lt_irrefl, Nat.zero_ne_one, Nat.one_ne_zero, Nat.zero_add, List.nil_append, List.cons_append, Option.toList_some, Option.toList_none, forall_const, false_implies, true_implies, false_or, or_false, true_or, or_true, i_le, i_lt, i_eq, i_eq0, i_lt0, i_0le, i_0lt, i_le0, i_in1, i_cl, nI_add, pk_mul, pk_sub, i_div, i_rem, i_sh1, i_bit, i_or, i_and, i_andn, nt_le, nf_le, nt_lt, nf_lt, nt_eq, nf_eq, not_true_eq_false, and_self, and_false, false_and, eq_self, Bool.toNat_true, Bool.toNat_false, i_bool, i_bool1, Bool.false_eq_true, Bool.true_eq_false, reduceCtorEq, i_neg1, i_neg2, i_neg3, i_neg4, i_neg5, i_neg6, i_neg7, i_neg8, i_neg9, i_nega, i_negb, i_negc, i_max2, i_min2, h22, wi_nil]
    repeat (
      first
      | refine s_X9_remember_0 ?_
      | refine s_X9_remember_2 ?_
      | refine s_X9_remember_34 ?_
      simp (disch := omega) only [B_X9_remember_0, wi_iconst, wi_istore_n, B_X9_remember_2, wi_iload_n, wi_bipush, wi_icmp_ge, wi_aload_n, wi_getfield, fldv_8_23, fds_8_23, cnt_8, fldv_8_22, fds_8_22, wi_imul, wi_iadd, fldv_8_20, fds_8_20, wi_iaload, wi_iastore, wi_iinc, wi_goto, cnt_40, aTy_40, aLn_40, arr_40, cnt_42, aTy_42, aLn_42, arr_42, B_X9_remember_34, wi_dup, wi_putfield, pOk_8_22, wi_return_, no0, no1, nz1, nz2, nz3, nz4, nz5, nz7, nz8, Classical.not_not, bz0, bz1, wi_nil, ld_0, ld_s, isIv_I, isLv_L, isRv_R, true_and, and_true, lset_0, lset_1, lset_s, avw_I, avw_L, avw_R, clr_cons, clr_nil, kst_0, kst_1, kstL_0, kstL_1, addk_I, pA_0, pA_s, pD_0, pD_s, wid_nil, wid_cons, rcv_c, putv_I, putv_L, List.length_cons, List.length_nil, List.set_cons_zero, List.set_cons_succ, not_false_eq_true, Nat.reduceMod, Nat.reduceDiv, Nat.reduceEqDiff, Nat.reduceLT, Nat.reduceLeDiff, Nat.reduceAdd, Nat.reduceSub, reduceIte, Nat.lt_irrefl, Nat.zero_ne_one, Nat.one_ne_zero, Nat.zero_add, List.nil_append, List.cons_append, Option.toList_some, Option.toList_none, forall_const, false_implies, true_implies, false_or, or_false, true_or, or_true, i_le, i_lt, i_eq, i_eq0, i_lt0, i_0le, i_0lt, i_le0, i_in1, i_cl, nI_add, pk_mul, pk_sub, i_div, i_rem, i_sh1, i_bit, i_or, i_and, i_andn, nt_le, nf_le, nt_lt, nf_lt, nt_eq, nf_eq, not_true_eq_false, and_self, and_false, false_and, eq_self, Bool.toNat_true, Bool.toNat_false, i_bool, i_bool1, Bool.false_eq_true, Bool.true_eq_false, reduceCtorEq, i_neg1, i_neg2, i_neg3, i_neg4, i_neg5, i_neg6, i_neg7, i_neg8, i_neg9, i_nega, i_negb, i_negc, i_max2, i_min2, h22])
    exact q
  | succ m ih =>
    intro i S hi h22 q
    refine s_X9_remember_2 ?_
    simp (disch := omega) only [B_X9_remember_2, wi_iload_n, wi_bipush, wi_icmp_ge, wi_aload_n, wi_getfield, fldv_8_23, fds_8_23, cnt_8, fldv_8_22, fds_8_22, wi_imul, wi_iadd, fldv_8_20, fds_8_20, wi_iaload, wi_iastore, wi_iinc, wi_goto, cnt_40, aTy_40, aLn_40, arr_40, cnt_42, aTy_42, aLn_42, arr_42, no0, no1, nz1, nz2, nz3, nz4, nz5, nz7, nz8, Classical.not_not, bz0, bz1, wi_nil, ld_0, ld_s, isIv_I, isLv_L, isRv_R, true_and, and_true, lset_0, lset_1, lset_s, avw_I, avw_L, avw_R, clr_cons, clr_nil, kst_0, kst_1, kstL_0, kstL_1, addk_I, pA_0, pA_s, pD_0, pD_s, wid_nil, wid_cons, rcv_c, putv_I, putv_L, List.length_cons, List.length_nil, List.set_cons_zero, List.set_cons_succ, not_false_eq_true, Nat.reduceMod, Nat.reduceDiv, Nat.reduceEqDiff, Nat.reduceLT, Nat.reduceLeDiff, Nat.reduceAdd, Nat.reduceSub, reduceIte, Nat.lt_irrefl, Nat.zero_ne_one, Nat.one_ne_zero, Nat.zero_add, List.nil_append, List.cons_append, Option.toList_some, Option.toList_none, forall_const, false_implies, true_implies, false_or, or_false, true_or, or_true, i_le, i_lt, i_eq, i_eq0, i_lt0, i_0le, i_0lt, i_le0, i_in1, i_cl, nI_add, pk_mul, pk_sub, i_div, i_rem, i_sh1, i_bit, i_or, i_and, i_andn, nt_le, nf_le, nt_lt, nf_lt, nt_eq, nf_eq, not_true_eq_false, and_self, and_false, false_and, eq_self, Bool.toNat_true, Bool.toNat_false, i_bool, i_bool1, Bool.false_eq_true, Bool.true_eq_false, reduceCtorEq, i_neg1, i_neg2, i_neg3, i_neg4, i_neg5, i_neg6, i_neg7, i_neg8, i_neg9, i_nega, i_negb, i_negc, i_max2, i_min2, h22]
    refine ih (i + 1) _ (by omega) h22 ?_
    rw [gA_same, sA_sA]
    have e : gA (sA S 42 0 (upd (gA S 42 0) (19 * L + i) (gA S 40 0 i))) 40 0 = gA S 40 0 := rfl
    rw [e, put_step (g := gA S 40 0) (by omega)]
    exact q
theorem c_remember {L : Nat} (hL : L < 40) (h22 : gI S 8 0 22 = nI L) (q : P none (sI (sA S 42 0 (fb_put (gA S 42 0) (gA S 40 0) (19 * L) 19)) 8 0 22 (nI (L + 1)))) : wpM (d + 1) mX9_remember [aR 8 0] S P := by
  refine x_entry (ls2 := [aR 8 0, aU]) (Nat.le_of_ble_eq_true rfl) pl_9 rfl (Nat.le_of_ble_eq_true rfl) ?_
  try simp (disch := omega) only [no0, no1, nz1, nz2, nz3, nz4, nz5, nz7, nz8, Classical.not_not, bz0, bz1, wi_nil, ld_0, ld_s, isIv_I, isLv_L, isRv_R, true_and, and_true, lset_0, lset_1, lset_s, avw_I, avw_L, avw_R, clr_cons, clr_nil, kst_0, kst_1, kstL_0, kstL_1, addk_I, pA_0, pA_s, pD_0, pD_s, wid_nil, wid_cons, rcv_c, putv_I, putv_L, List.length_cons, List.length_nil, List.set_cons_zero, List.set_cons_succ, not_false_eq_true, Nat.reduceMod, Nat.reduceDiv, Nat.reduceEqDiff, Nat.reduceLT, Nat.reduceLeDiff, Nat.reduceAdd, Nat.reduceSub, reduceIte, Nat.lt_irrefl, Nat.zero_ne_one, Nat.one_ne_zero, Nat.zero_add, List.nil_append, List.cons_append, Option.toList_some, Option.toList_none, forall_const, false_implies, true_implies, false_or, or_false, true_or, or_true, i_le, i_lt, i_eq, i_eq0, i_lt0, i_0le, i_0lt, i_le0, i_in1, i_cl, nI_add, pk_mul, pk_sub, i_div, i_rem, i_sh1, i_bit, i_or, i_and, i_andn, nt_le, nf_le, nt_lt, nf_lt, nt_eq, nf_eq, not_true_eq_false, and_self, and_false, false_and, eq_self, Bool.toNat_true, Bool.toNat_false, i_bool, i_bool1, Bool.false_eq_true, Bool.true_eq_false, reduceCtorEq, i_neg1, i_neg2, i_neg3, i_neg4, i_neg5, i_neg6, i_neg7, i_neg8, i_neg9, i_nega, i_negb, i_negc, i_max2, i_min2, wi_nil]
  repeat (
    first
    | refine s_X9_remember_0 ?_
    | refine s_X9_remember_34 ?_
    simp (disch := omega) only [B_X9_remember_0, wi_iconst, wi_istore_n, B_X9_remember_2, wi_iload_n, wi_bipush, wi_icmp_ge, wi_aload_n, wi_getfield, fldv_8_23, fds_8_23, cnt_8, fldv_8_22, fds_8_22, wi_imul, wi_iadd, fldv_8_20, fds_8_20, wi_iaload, wi_iastore, wi_iinc, wi_goto, cnt_40, aTy_40, aLn_40, arr_40, cnt_42, aTy_42, aLn_42, arr_42, B_X9_remember_34, wi_dup, wi_putfield, pOk_8_22, wi_return_, no0, no1, nz1, nz2, nz3, nz4, nz5, nz7, nz8, Classical.not_not, bz0, bz1, wi_nil, ld_0, ld_s, isIv_I, isLv_L, isRv_R, true_and, and_true, lset_0, lset_1, lset_s, avw_I, avw_L, avw_R, clr_cons, clr_nil, kst_0, kst_1, kstL_0, kstL_1, addk_I, pA_0, pA_s, pD_0, pD_s, wid_nil, wid_cons, rcv_c, putv_I, putv_L, List.length_cons, List.length_nil, List.set_cons_zero, List.set_cons_succ, not_false_eq_true, Nat.reduceMod, Nat.reduceDiv, Nat.reduceEqDiff, Nat.reduceLT, Nat.reduceLeDiff, Nat.reduceAdd, Nat.reduceSub, reduceIte, Nat.lt_irrefl, Nat.zero_ne_one, Nat.one_ne_zero, Nat.zero_add, List.nil_append, List.cons_append, Option.toList_some, Option.toList_none, forall_const, false_implies, true_implies, false_or, or_false, true_or, or_true, i_le, i_lt, i_eq, i_eq0, i_lt0, i_0le, i_0lt, i_le0, i_in1, i_cl, nI_add, pk_mul, pk_sub, i_div, i_rem, i_sh1, i_bit, i_or, i_and, i_andn, nt_le, nf_le, nt_lt, nf_lt, nt_eq, nf_eq, not_true_eq_false, and_self, and_false, false_and, eq_self, Bool.toNat_true, Bool.toNat_false, i_bool, i_bool1, Bool.false_eq_true, Bool.true_eq_false, reduceCtorEq, i_neg1, i_neg2, i_neg3, i_neg4, i_neg5, i_neg6, i_neg7, i_neg8, i_neg9, i_nega, i_negb, i_negc, i_max2, i_min2])
  exact l_remember hL 19 0 S rfl h22 q
theorem mlg_step {S2 : MS} {p : Nat} (hn : Y0 6 0 ≤ 5) (h : MLg S Y0 as) (hm : NwA (gA S 40 0) 0 (nwY Y0 as)) (e1 : gI S2 8 0 22 = nI (as.length + 1)) (e2 : gA S2 42 0 = fb_put (gA S 42 0) (gA S 40 0) (19 * as.length) 19) : MLg S2 Y0 (as ++ [p]) := by
  refine ⟨by rw [e1, List.length_append]; rfl, fun k hk => ?_⟩
  rw [List.length_append] at hk
  have hk : k < as.length + 1 := hk
  rw [e2, List.take_append_of_le_length (by omega)]
  have hn2 : ∀ l, nwY Y0 l 6 0 ≤ 5 := fun l => by rw [nwY_n]; exact hn
  rcases Nat.lt_or_ge k as.length with a | a
  · refine nwa_cong (hn2 _) (fun p hp => ?_) (h.2 k a)
    rw [fb_put_out (by omega)]
  · have e : k = as.length := by omega
    subst e
    rw [List.take_length]
    refine nwa_cong (hn2 _) (fun p hp => ?_) hm
    rw [fb_put_in (by omega) (by omega)]
    congr 1
    omega
theorem rr_acts {T U : MS} {as2 : List Nat} (h : Rr S) (h3 : R3 S Y0 as kp) (fx : Fr (pN 7) S T) (fm : Fr (pN 8) T U) (x1 : XAc T as2) (x2 : YrX T 1 (nwY Y0 as2)) (m1 : MLg U Y0 as2) (m2 : YrM U 40 (nwY Y0 as2)) (ok : AcOk Y0 as2) : Rr U :=
  rr_3 h ((fx.mono (fun g hg => by unfold p3 at hg; unfold pN; simp at hg ⊢; exact ⟨hg.1.1.1, hg.1.2⟩)).trans (fm.mono (fun g hg => by unfold p3 at hg; unfold pN; simp at hg ⊢; exact ⟨hg.1.1.1, hg.2⟩))) (r3_acts h3 fx fm x1 x2 m1 m2 ok)
theorem ac_app {p : Nat} (h : AcOk Y0 as) (hl : as.length < 40) (ha : AOk (nwY Y0 as) p) : AcOk Y0 (as ++ [p]) := ⟨by rw [List.length_append]; exact hl, (AsOk_app as Y0).mpr ⟨h.2, ha⟩⟩
/-- what one has of the years -/
theorem r_acts (h : Rr S) : ∃ Y0 as kp, R3 S Y0 as kp ∧ YOk 40 (nwY Y0 as) ∧ YrX S 1 (nwY Y0 as) ∧ YrM S 40 (nwY Y0 as) ∧ as.length ≤ 40 := by
  obtain ⟨-, -, ⟨Y0, as, kp, h3⟩, -⟩ := h
  obtain ⟨⟨-, a, -⟩, ⟨b, -⟩, c, e, -⟩ := id h3
  exact ⟨Y0, as, kp, h3, YOk_mono (nwY_ok as 0 Y0 c e.2) (by have := e.1; omega), a, b, e.1⟩
theorem and0_bit {a b t : Nat} (h : a &&& b = 0) (ha : a.testBit t = true) : b.testBit t = false := by
  have := Nat.testBit_and a b t
  rw [h, Nat.zero_testBit, ha, Bool.true_and] at this
  exact this.symm
theorem ofc_full {s o : Nat} (h1 : s &&& o = 0) (h2 : (s ||| o) &&& Y 6 4 = 0) : ∀ n, ofc Y s o n = csum (fun _ => 1) n o := by
  intro n
  induction n with
  | zero => rfl
  | succ n ih =>
    rw [ofc_succ, csum_succ, ih]
    by_cases h : o.testBit n = true
    · have e1 : s.testBit n = false := by
        cases hs : s.testBit n
        · rfl
        · have := and0_bit h1 hs; rw [h] at this; cases this
      have e2 : (Y 6 4).testBit n = false := and0_bit h2 (by rw [Nat.testBit_or, h]; simp)
      rw [if_pos ⟨e2, e1, h⟩, if_pos h]
    · rw [if_neg (fun q => h q.2.2), if_neg h]
theorem ok_day {s o : Nat} (hn5 : Y 6 0 ≤ 5) (hs : s < 2 ^ Y 6 0) (ho : o < 2 ^ Y 6 0) (h1 : s &&& o = 0) (h2 : (s ||| o) &&& Y 6 4 = 0) (h3 : bct o ≤ Y 6 3) : AOk Y (pkN 0 s o) ∧ flY Y (pkN 0 s o) = psY Y s o := by
  have h32 := p2_lt hn5
  obtain ⟨e1, e2, e3⟩ := pkN_dec (w := 0) (a := s) (b := o) (by omega) (by omega)
  refine ⟨⟨?_, by omega, fun _ => ?_, fun h => by omega, fun h => by omega⟩, ?_⟩
  · unfold pkN; omega
  · rw [e2, e3]; exact ⟨hs, ho, h1, h2, h3⟩
  · unfold flY
    rw [if_pos e1, e2, e3]
theorem psM_day2 {s o : Nat} (hn5 : Y 6 0 ≤ 5) (ho : o < 2 ^ Y 6 0) (h1 : s &&& o = 0) (h2 : (s ||| o) &&& Y 6 4 = 0) : psM Y s o = psY Y s o := by
  refine psM_eq (fun t _ hs => and0_bit h2 (by rw [Nat.testBit_or, hs]; rfl)) ?_
  rw [ofc_full h1 h2]
  exact (csum_high 6 (Y 6 0) o (by omega) ho).symm
theorem and_lt32 {a b : Nat} (h : a < 32) : a &&& b < 32 := Nat.lt_of_le_of_lt Nat.and_le_left h
theorem o_day {s o : Int32} (h : Rr S) : wpM (d + 10) mX8_day [aR 7 0, aI s, aI o] S (PX d mX9_day [aI s, aI o]) := by
  obtain ⟨Y0, as, kp, h3, hok, hy, hm, hl⟩ := r_acts h
  have hx := h3.1.2.2.1
  have hlg := h3.2.1.2.1
  have hac := h3.2.2.2.1
  have hn0 : Y0 6 0 ≤ 5 := h3.2.2.1.1.1
  generalize hY : nwY Y0 as = Y at hok hy hm
  have hn5 := hok.1.1
  have h32 := p2_lt hn5
  have hg := yg_lt hok
  have hw40 := hok.1.2.2.1
  have ho9 := hok.1.2.2.2.1
  cases hs : inB s (2 ^ Y 6 0)
  · refine x_entry (ls2 := [aR 7 0, aI s, aI o]) (Nat.le_of_ble_eq_true rfl) pl_8 rfl (Nat.le_of_ble_eq_true rfl) ?_
    try simp (disch := omega) only [no0, no1, nz1, nz2, nz3, nz4, nz5, nz7, nz8, Classical.not_not, bz0, bz1, wi_nil, ld_0, ld_s, isIv_I, isLv_L, isRv_R, true_and, and_true, lset_0, lset_1, lset_s, avw_I, avw_L, avw_R, clr_cons, clr_nil, kst_0, kst_1, kstL_0, kstL_1, addk_I, pA_0, pA_s, pD_0, pD_s, wid_nil, wid_cons, rcv_c, putv_I, putv_L, List.length_cons, List.length_nil, List.set_cons_zero, List.set_cons_succ, not_false_eq_true, Nat.reduceMod, Nat.reduceDiv, Nat.reduceEqDiff, Nat.reduceLT, Nat.reduceLeDiff, Nat.reduceAdd, Nat.reduceSub, reduceIte, Nat.lt_irrefl, Nat.zero_ne_one, Nat.one_ne_zero, Nat.zero_add, List.nil_append, List.cons_append, Option.toList_some, Option.toList_none, forall_const, false_implies, true_implies, false_or, or_false, true_or, or_true, i_le, i_lt, i_eq, i_eq0, i_lt0, i_0le, i_0lt, i_le0, i_in1, i_cl, nI_add, pk_mul, pk_sub, i_div, i_rem, i_sh1, i_bit, i_or, i_and, i_andn, nt_le, nf_le, nt_lt, nf_lt, nt_eq, nf_eq, not_true_eq_false, and_self, and_false, false_and, eq_self, Bool.toNat_true, Bool.toNat_false, i_bool, i_bool1, Bool.false_eq_true, Bool.true_eq_false, reduceCtorEq, i_neg1, i_neg2, i_neg3, i_neg4, i_neg5, i_neg6, i_neg7, i_neg8, i_neg9, i_nega, i_negb, i_negc, i_max2, i_min2, wi_nil]
    repeat (
      first
      | refine s_X8_day_0 ?_
      | refine s_X8_day_5 ?_
      | refine s_X8_day_13 ?_
      | refine s_X8_day_36 ?_
      | refine s_X8_day_38 ?_
      | refine s_X8_day_51 ?_
      | refine s_X8_day_58 ?_
      | refine s_X8_day_74 ?_
      | refine s_X8_day_84 ?_
      | refine s_X8_day_87 ?_
      | refine s_X8_day_95 ?_
      | refine s_X8_day_101 ?_
      | refine s_X8_day_108 ?_
      | refine s_X8_day_111 ?_
      | refine s_X8_day_115 ?_
      simp (disch := omega) only [B_X8_day_0, wi_aload_n, wi_iload_n, wi_invokevirtual, cnt_7, B_X8_day_5, wi_if_eq, B_X8_day_13, wi_iand, wi_if_ne, wi_ior, wi_getfield, fldv_7_3, fds_7_3, fldv_6_11, fds_6_11, cnt_6, B_X8_day_36, wi_iconst, wi_ireturn, B_X8_day_38, fldv_6_7, fds_6_7, wi_bipush, B_X8_day_51, B_X8_day_58, wi_iaload, fldv_6_9, fds_6_9, wi_icmp_gt, wi_invokestatic, B_X8_day_74, fldv_6_10, fds_6_10, wi_icmp_le, B_X8_day_84, B_X8_day_87, fldv_7_6, fds_7_6, cnt_0, B_X8_day_95, B_X8_day_101, B_X8_day_108, B_X8_day_111, B_X8_day_115, no0, no1, nz1, nz2, nz3, nz4, nz5, nz7, nz8, Classical.not_not, bz0, bz1, wi_nil, ld_0, ld_s, isIv_I, isLv_L, isRv_R, true_and, and_true, lset_0, lset_1, lset_s, avw_I, avw_L, avw_R, clr_cons, clr_nil, kst_0, kst_1, kstL_0, kstL_1, addk_I, pA_0, pA_s, pD_0, pD_s, wid_nil, wid_cons, rcv_c, putv_I, putv_L, List.length_cons, List.length_nil, List.set_cons_zero, List.set_cons_succ, not_false_eq_true, Nat.reduceMod, Nat.reduceDiv, Nat.reduceEqDiff, Nat.reduceLT, Nat.reduceLeDiff, Nat.reduceAdd, Nat.reduceSub, reduceIte, Nat.lt_irrefl, Nat.zero_ne_one, Nat.one_ne_zero, Nat.zero_add, List.nil_append, List.cons_append, Option.toList_some, Option.toList_none, forall_const, false_implies, true_implies, false_or, or_false, true_or, or_true, i_le, i_lt, i_eq, i_eq0, i_lt0, i_0le, i_0lt, i_le0, i_in1, i_cl, nI_add, pk_mul, pk_sub, i_div, i_rem, i_sh1, i_bit, i_or, i_and, i_andn, nt_le, nf_le, nt_lt, nf_lt, nt_eq, nf_eq, not_true_eq_false, and_self, and_false, false_and, eq_self, Bool.toNat_true, Bool.toNat_false, i_bool, i_bool1, Bool.false_eq_true, Bool.true_eq_false, reduceCtorEq, i_neg1, i_neg2, i_neg3, i_neg4, i_neg5, i_neg6, i_neg7, i_neg8, i_neg9, i_nega, i_negb, i_negc, i_max2, i_min2])
    refine c_isSet hy hn5 ?_
    try simp (disch := omega) only [no0, no1, nz1, nz2, nz3, nz4, nz5, nz7, nz8, Classical.not_not, bz0, bz1, wi_nil, ld_0, ld_s, isIv_I, isLv_L, isRv_R, true_and, and_true, lset_0, lset_1, lset_s, avw_I, avw_L, avw_R, clr_cons, clr_nil, kst_0, kst_1, kstL_0, kstL_1, addk_I, pA_0, pA_s, pD_0, pD_s, wid_nil, wid_cons, rcv_c, putv_I, putv_L, List.length_cons, List.length_nil, List.set_cons_zero, List.set_cons_succ, not_false_eq_true, Nat.reduceMod, Nat.reduceDiv, Nat.reduceEqDiff, Nat.reduceLT, Nat.reduceLeDiff, Nat.reduceAdd, Nat.reduceSub, reduceIte, Nat.lt_irrefl, Nat.zero_ne_one, Nat.one_ne_zero, Nat.zero_add, List.nil_append, List.cons_append, Option.toList_some, Option.toList_none, forall_const, false_implies, true_implies, false_or, or_false, true_or, or_true, i_le, i_lt, i_eq, i_eq0, i_lt0, i_0le, i_0lt, i_le0, i_in1, i_cl, nI_add, pk_mul, pk_sub, i_div, i_rem, i_sh1, i_bit, i_or, i_and, i_andn, nt_le, nf_le, nt_lt, nf_lt, nt_eq, nf_eq, not_true_eq_false, and_self, and_false, false_and, eq_self, Bool.toNat_true, Bool.toNat_false, i_bool, i_bool1, Bool.false_eq_true, Bool.true_eq_false, reduceCtorEq, i_neg1, i_neg2, i_neg3, i_neg4, i_neg5, i_neg6, i_neg7, i_neg8, i_neg9, i_nega, i_negb, i_negc, i_max2, i_min2, hs, wi_nil]
    repeat (
      first
      | refine s_X8_day_0 ?_
      | refine s_X8_day_5 ?_
      | refine s_X8_day_13 ?_
      | refine s_X8_day_36 ?_
      | refine s_X8_day_38 ?_
      | refine s_X8_day_51 ?_
      | refine s_X8_day_58 ?_
      | refine s_X8_day_74 ?_
      | refine s_X8_day_84 ?_
      | refine s_X8_day_87 ?_
      | refine s_X8_day_95 ?_
      | refine s_X8_day_101 ?_
      | refine s_X8_day_108 ?_
      | refine s_X8_day_111 ?_
      | refine s_X8_day_115 ?_
      simp (disch := omega) only [B_X8_day_0, wi_aload_n, wi_iload_n, wi_invokevirtual, cnt_7, B_X8_day_5, wi_if_eq, B_X8_day_13, wi_iand, wi_if_ne, wi_ior, wi_getfield, fldv_7_3, fds_7_3, fldv_6_11, fds_6_11, cnt_6, B_X8_day_36, wi_iconst, wi_ireturn, B_X8_day_38, fldv_6_7, fds_6_7, wi_bipush, B_X8_day_51, B_X8_day_58, wi_iaload, fldv_6_9, fds_6_9, wi_icmp_gt, wi_invokestatic, B_X8_day_74, fldv_6_10, fds_6_10, wi_icmp_le, B_X8_day_84, B_X8_day_87, fldv_7_6, fds_7_6, cnt_0, B_X8_day_95, B_X8_day_101, B_X8_day_108, B_X8_day_111, B_X8_day_115, no0, no1, nz1, nz2, nz3, nz4, nz5, nz7, nz8, Classical.not_not, bz0, bz1, wi_nil, ld_0, ld_s, isIv_I, isLv_L, isRv_R, true_and, and_true, lset_0, lset_1, lset_s, avw_I, avw_L, avw_R, clr_cons, clr_nil, kst_0, kst_1, kstL_0, kstL_1, addk_I, pA_0, pA_s, pD_0, pD_s, wid_nil, wid_cons, rcv_c, putv_I, putv_L, List.length_cons, List.length_nil, List.set_cons_zero, List.set_cons_succ, not_false_eq_true, Nat.reduceMod, Nat.reduceDiv, Nat.reduceEqDiff, Nat.reduceLT, Nat.reduceLeDiff, Nat.reduceAdd, Nat.reduceSub, reduceIte, Nat.lt_irrefl, Nat.zero_ne_one, Nat.one_ne_zero, Nat.zero_add, List.nil_append, List.cons_append, Option.toList_some, Option.toList_none, forall_const, false_implies, true_implies, false_or, or_false, true_or, or_true, i_le, i_lt, i_eq, i_eq0, i_lt0, i_0le, i_0lt, i_le0, i_in1, i_cl, nI_add, pk_mul, pk_sub, i_div, i_rem, i_sh1, i_bit, i_or, i_and, i_andn, nt_le, nf_le, nt_lt, nf_lt, nt_eq, nf_eq, not_true_eq_false, and_self, and_false, false_and, eq_self, Bool.toNat_true, Bool.toNat_false, i_bool, i_bool1, Bool.false_eq_true, Bool.true_eq_false, reduceCtorEq, i_neg1, i_neg2, i_neg3, i_neg4, i_neg5, i_neg6, i_neg7, i_neg8, i_neg9, i_nega, i_negb, i_negc, i_max2, i_min2, hs])
    refine px ?_
    refine x_entry (ls2 := [aR 8 0, aI s, aI o, aU]) (Nat.le_of_ble_eq_true rfl) pl_9 rfl (Nat.le_of_ble_eq_true rfl) ?_
    try simp (disch := omega) only [no0, no1, nz1, nz2, nz3, nz4, nz5, nz7, nz8, Classical.not_not, bz0, bz1, wi_nil, ld_0, ld_s, isIv_I, isLv_L, isRv_R, true_and, and_true, lset_0, lset_1, lset_s, avw_I, avw_L, avw_R, clr_cons, clr_nil, kst_0, kst_1, kstL_0, kstL_1, addk_I, pA_0, pA_s, pD_0, pD_s, wid_nil, wid_cons, rcv_c, putv_I, putv_L, List.length_cons, List.length_nil, List.set_cons_zero, List.set_cons_succ, not_false_eq_true, Nat.reduceMod, Nat.reduceDiv, Nat.reduceEqDiff, Nat.reduceLT, Nat.reduceLeDiff, Nat.reduceAdd, Nat.reduceSub, reduceIte, Nat.lt_irrefl, Nat.zero_ne_one, Nat.one_ne_zero, Nat.zero_add, List.nil_append, List.cons_append, Option.toList_some, Option.toList_none, forall_const, false_implies, true_implies, false_or, or_false, true_or, or_true, i_le, i_lt, i_eq, i_eq0, i_lt0, i_0le, i_0lt, i_le0, i_in1, i_cl, nI_add, pk_mul, pk_sub, i_div, i_rem, i_sh1, i_bit, i_or, i_and, i_andn, nt_le, nf_le, nt_lt, nf_lt, nt_eq, nf_eq, not_true_eq_false, and_self, and_false, false_and, eq_self, Bool.toNat_true, Bool.toNat_false, i_bool, i_bool1, Bool.false_eq_true, Bool.true_eq_false, reduceCtorEq, i_neg1, i_neg2, i_neg3, i_neg4, i_neg5, i_neg6, i_neg7, i_neg8, i_neg9, i_nega, i_negb, i_negc, i_max2, i_min2, wi_nil]
    repeat (
      first
      | refine s_X9_day_0 ?_
      | refine s_X9_day_5 ?_
      | refine s_X9_day_13 ?_
      | refine s_X9_day_39 ?_
      | refine s_X9_day_40 ?_
      | refine s_X9_day_47 ?_
      | refine s_X9_day_57 ?_
      | refine s_X9_day_66 ?_
      | refine s_X9_day_79 ?_
      | refine s_X9_day_88 ?_
      | refine s_X9_day_91 ?_
      | refine s_X9_day_103 ?_
      | refine s_X9_day_107 ?_
      | refine s_X9_day_117 ?_
      | refine s_X9_day_121 ?_
      simp (disch := omega) only [B_X9_day_0, wi_aload_n, wi_iload_n, wi_invokevirtual, cnt_8, B_X9_day_5, wi_if_eq, B_X9_day_13, wi_iand, wi_if_ne, wi_ior, wi_getfield, fldv_8_20, fds_8_20, wi_iconst, wi_iaload, wi_goto, cnt_40, aTy_40, aLn_40, arr_40, B_X9_day_39, B_X9_day_40, wi_istore_n, wi_ireturn, B_X9_day_47, fldv_8_10, fds_8_10, wi_bipush, B_X9_day_57, B_X9_day_66, wi_icmp_gt, wi_invokestatic, B_X9_day_79, wi_icmp_le, B_X9_day_88, B_X9_day_91, fldv_8_22, fds_8_22, wi_icmp_ne, B_X9_day_103, B_X9_day_107, B_X9_day_117, B_X9_day_121, no0, no1, nz1, nz2, nz3, nz4, nz5, nz7, nz8, Classical.not_not, bz0, bz1, wi_nil, ld_0, ld_s, isIv_I, isLv_L, isRv_R, true_and, and_true, lset_0, lset_1, lset_s, avw_I, avw_L, avw_R, clr_cons, clr_nil, kst_0, kst_1, kstL_0, kstL_1, addk_I, pA_0, pA_s, pD_0, pD_s, wid_nil, wid_cons, rcv_c, putv_I, putv_L, List.length_cons, List.length_nil, List.set_cons_zero, List.set_cons_succ, not_false_eq_true, Nat.reduceMod, Nat.reduceDiv, Nat.reduceEqDiff, Nat.reduceLT, Nat.reduceLeDiff, Nat.reduceAdd, Nat.reduceSub, reduceIte, Nat.lt_irrefl, Nat.zero_ne_one, Nat.one_ne_zero, Nat.zero_add, List.nil_append, List.cons_append, Option.toList_some, Option.toList_none, forall_const, false_implies, true_implies, false_or, or_false, true_or, or_true, i_le, i_lt, i_eq, i_eq0, i_lt0, i_0le, i_0lt, i_le0, i_in1, i_cl, nI_add, pk_mul, pk_sub, i_div, i_rem, i_sh1, i_bit, i_or, i_and, i_andn, nt_le, nf_le, nt_lt, nf_lt, nt_eq, nf_eq, not_true_eq_false, and_self, and_false, false_and, eq_self, Bool.toNat_true, Bool.toNat_false, i_bool, i_bool1, Bool.false_eq_true, Bool.true_eq_false, reduceCtorEq, i_neg1, i_neg2, i_neg3, i_neg4, i_neg5, i_neg6, i_neg7, i_neg8, i_neg9, i_nega, i_negb, i_negc, i_max2, i_min2])
    refine c_mSet hm hn5 ?_
    try simp (disch := omega) only [no0, no1, nz1, nz2, nz3, nz4, nz5, nz7, nz8, Classical.not_not, bz0, bz1, wi_nil, ld_0, ld_s, isIv_I, isLv_L, isRv_R, true_and, and_true, lset_0, lset_1, lset_s, avw_I, avw_L, avw_R, clr_cons, clr_nil, kst_0, kst_1, kstL_0, kstL_1, addk_I, pA_0, pA_s, pD_0, pD_s, wid_nil, wid_cons, rcv_c, putv_I, putv_L, List.length_cons, List.length_nil, List.set_cons_zero, List.set_cons_succ, not_false_eq_true, Nat.reduceMod, Nat.reduceDiv, Nat.reduceEqDiff, Nat.reduceLT, Nat.reduceLeDiff, Nat.reduceAdd, Nat.reduceSub, reduceIte, Nat.lt_irrefl, Nat.zero_ne_one, Nat.one_ne_zero, Nat.zero_add, List.nil_append, List.cons_append, Option.toList_some, Option.toList_none, forall_const, false_implies, true_implies, false_or, or_false, true_or, or_true, i_le, i_lt, i_eq, i_eq0, i_lt0, i_0le, i_0lt, i_le0, i_in1, i_cl, nI_add, pk_mul, pk_sub, i_div, i_rem, i_sh1, i_bit, i_or, i_and, i_andn, nt_le, nf_le, nt_lt, nf_lt, nt_eq, nf_eq, not_true_eq_false, and_self, and_false, false_and, eq_self, Bool.toNat_true, Bool.toNat_false, i_bool, i_bool1, Bool.false_eq_true, Bool.true_eq_false, reduceCtorEq, i_neg1, i_neg2, i_neg3, i_neg4, i_neg5, i_neg6, i_neg7, i_neg8, i_neg9, i_nega, i_negb, i_negc, i_max2, i_min2, hs, wi_nil]
    repeat (
      first
      | refine s_X9_day_0 ?_
      | refine s_X9_day_5 ?_
      | refine s_X9_day_13 ?_
      | refine s_X9_day_39 ?_
      | refine s_X9_day_40 ?_
      | refine s_X9_day_47 ?_
      | refine s_X9_day_57 ?_
      | refine s_X9_day_66 ?_
      | refine s_X9_day_79 ?_
      | refine s_X9_day_88 ?_
      | refine s_X9_day_91 ?_
      | refine s_X9_day_103 ?_
      | refine s_X9_day_107 ?_
      | refine s_X9_day_117 ?_
      | refine s_X9_day_121 ?_
      simp (disch := omega) only [B_X9_day_0, wi_aload_n, wi_iload_n, wi_invokevirtual, cnt_8, B_X9_day_5, wi_if_eq, B_X9_day_13, wi_iand, wi_if_ne, wi_ior, wi_getfield, fldv_8_20, fds_8_20, wi_iconst, wi_iaload, wi_goto, cnt_40, aTy_40, aLn_40, arr_40, B_X9_day_39, B_X9_day_40, wi_istore_n, wi_ireturn, B_X9_day_47, fldv_8_10, fds_8_10, wi_bipush, B_X9_day_57, B_X9_day_66, wi_icmp_gt, wi_invokestatic, B_X9_day_79, wi_icmp_le, B_X9_day_88, B_X9_day_91, fldv_8_22, fds_8_22, wi_icmp_ne, B_X9_day_103, B_X9_day_107, B_X9_day_117, B_X9_day_121, no0, no1, nz1, nz2, nz3, nz4, nz5, nz7, nz8, Classical.not_not, bz0, bz1, wi_nil, ld_0, ld_s, isIv_I, isLv_L, isRv_R, true_and, and_true, lset_0, lset_1, lset_s, avw_I, avw_L, avw_R, clr_cons, clr_nil, kst_0, kst_1, kstL_0, kstL_1, addk_I, pA_0, pA_s, pD_0, pD_s, wid_nil, wid_cons, rcv_c, putv_I, putv_L, List.length_cons, List.length_nil, List.set_cons_zero, List.set_cons_succ, not_false_eq_true, Nat.reduceMod, Nat.reduceDiv, Nat.reduceEqDiff, Nat.reduceLT, Nat.reduceLeDiff, Nat.reduceAdd, Nat.reduceSub, reduceIte, Nat.lt_irrefl, Nat.zero_ne_one, Nat.one_ne_zero, Nat.zero_add, List.nil_append, List.cons_append, Option.toList_some, Option.toList_none, forall_const, false_implies, true_implies, false_or, or_false, true_or, or_true, i_le, i_lt, i_eq, i_eq0, i_lt0, i_0le, i_0lt, i_le0, i_in1, i_cl, nI_add, pk_mul, pk_sub, i_div, i_rem, i_sh1, i_bit, i_or, i_and, i_andn, nt_le, nf_le, nt_lt, nf_lt, nt_eq, nf_eq, not_true_eq_false, and_self, and_false, false_and, eq_self, Bool.toNat_true, Bool.toNat_false, i_bool, i_bool1, Bool.false_eq_true, Bool.true_eq_false, reduceCtorEq, i_neg1, i_neg2, i_neg3, i_neg4, i_neg5, i_neg6, i_neg7, i_neg8, i_neg9, i_nega, i_negb, i_negc, i_max2, i_min2, hs])
    exact pm h
  · cases hoo : inB o (2 ^ Y 6 0)
    · refine x_entry (ls2 := [aR 7 0, aI s, aI o]) (Nat.le_of_ble_eq_true rfl) pl_8 rfl (Nat.le_of_ble_eq_true rfl) ?_
      try simp (disch := omega) only [no0, no1, nz1, nz2, nz3, nz4, nz5, nz7, nz8, Classical.not_not, bz0, bz1, wi_nil, ld_0, ld_s, isIv_I, isLv_L, isRv_R, true_and, and_true, lset_0, lset_1, lset_s, avw_I, avw_L, avw_R, clr_cons, clr_nil, kst_0, kst_1, kstL_0, kstL_1, addk_I, pA_0, pA_s, pD_0, pD_s, wid_nil, wid_cons, rcv_c, putv_I, putv_L, List.length_cons, List.length_nil, List.set_cons_zero, List.set_cons_succ, not_false_eq_true, Nat.reduceMod, Nat.reduceDiv, Nat.reduceEqDiff, Nat.reduceLT, Nat.reduceLeDiff, Nat.reduceAdd, Nat.reduceSub, reduceIte, Nat.lt_irrefl, Nat.zero_ne_one, Nat.one_ne_zero, Nat.zero_add, List.nil_append, List.cons_append, Option.toList_some, Option.toList_none, forall_const, false_implies, true_implies, false_or, or_false, true_or, or_true, i_le, i_lt, i_eq, i_eq0, i_lt0, i_0le, i_0lt, i_le0, i_in1, i_cl, nI_add, pk_mul, pk_sub, i_div, i_rem, i_sh1, i_bit, i_or, i_and, i_andn, nt_le, nf_le, nt_lt, nf_lt, nt_eq, nf_eq, not_true_eq_false, and_self, and_false, false_and, eq_self, Bool.toNat_true, Bool.toNat_false, i_bool, i_bool1, Bool.false_eq_true, Bool.true_eq_false, reduceCtorEq, i_neg1, i_neg2, i_neg3, i_neg4, i_neg5, i_neg6, i_neg7, i_neg8, i_neg9, i_nega, i_negb, i_negc, i_max2, i_min2, wi_nil]
      repeat (
        first
        | refine s_X8_day_0 ?_
        | refine s_X8_day_5 ?_
        | refine s_X8_day_13 ?_
        | refine s_X8_day_36 ?_
        | refine s_X8_day_38 ?_
        | refine s_X8_day_51 ?_
        | refine s_X8_day_58 ?_
        | refine s_X8_day_74 ?_
        | refine s_X8_day_84 ?_
        | refine s_X8_day_87 ?_
        | refine s_X8_day_95 ?_
        | refine s_X8_day_101 ?_
        | refine s_X8_day_108 ?_
        | refine s_X8_day_111 ?_
        | refine s_X8_day_115 ?_
        simp (disch := omega) only [B_X8_day_0, wi_aload_n, wi_iload_n, wi_invokevirtual, cnt_7, B_X8_day_5, wi_if_eq, B_X8_day_13, wi_iand, wi_if_ne, wi_ior, wi_getfield, fldv_7_3, fds_7_3, fldv_6_11, fds_6_11, cnt_6, B_X8_day_36, wi_iconst, wi_ireturn, B_X8_day_38, fldv_6_7, fds_6_7, wi_bipush, B_X8_day_51, B_X8_day_58, wi_iaload, fldv_6_9, fds_6_9, wi_icmp_gt, wi_invokestatic, B_X8_day_74, fldv_6_10, fds_6_10, wi_icmp_le, B_X8_day_84, B_X8_day_87, fldv_7_6, fds_7_6, cnt_0, B_X8_day_95, B_X8_day_101, B_X8_day_108, B_X8_day_111, B_X8_day_115, no0, no1, nz1, nz2, nz3, nz4, nz5, nz7, nz8, Classical.not_not, bz0, bz1, wi_nil, ld_0, ld_s, isIv_I, isLv_L, isRv_R, true_and, and_true, lset_0, lset_1, lset_s, avw_I, avw_L, avw_R, clr_cons, clr_nil, kst_0, kst_1, kstL_0, kstL_1, addk_I, pA_0, pA_s, pD_0, pD_s, wid_nil, wid_cons, rcv_c, putv_I, putv_L, List.length_cons, List.length_nil, List.set_cons_zero, List.set_cons_succ, not_false_eq_true, Nat.reduceMod, Nat.reduceDiv, Nat.reduceEqDiff, Nat.reduceLT, Nat.reduceLeDiff, Nat.reduceAdd, Nat.reduceSub, reduceIte, Nat.lt_irrefl, Nat.zero_ne_one, Nat.one_ne_zero, Nat.zero_add, List.nil_append, List.cons_append, Option.toList_some, Option.toList_none, forall_const, false_implies, true_implies, false_or, or_false, true_or, or_true, i_le, i_lt, i_eq, i_eq0, i_lt0, i_0le, i_0lt, i_le0, i_in1, i_cl, nI_add, pk_mul, pk_sub, i_div, i_rem, i_sh1, i_bit, i_or, i_and, i_andn, nt_le, nf_le, nt_lt, nf_lt, nt_eq, nf_eq, not_true_eq_false, and_self, and_false, false_and, eq_self, Bool.toNat_true, Bool.toNat_false, i_bool, i_bool1, Bool.false_eq_true, Bool.true_eq_false, reduceCtorEq, i_neg1, i_neg2, i_neg3, i_neg4, i_neg5, i_neg6, i_neg7, i_neg8, i_neg9, i_nega, i_negb, i_negc, i_max2, i_min2])
      refine c_isSet hy hn5 ?_
      try simp (disch := omega) only [no0, no1, nz1, nz2, nz3, nz4, nz5, nz7, nz8, Classical.not_not, bz0, bz1, wi_nil, ld_0, ld_s, isIv_I, isLv_L, isRv_R, true_and, and_true, lset_0, lset_1, lset_s, avw_I, avw_L, avw_R, clr_cons, clr_nil, kst_0, kst_1, kstL_0, kstL_1, addk_I, pA_0, pA_s, pD_0, pD_s, wid_nil, wid_cons, rcv_c, putv_I, putv_L, List.length_cons, List.length_nil, List.set_cons_zero, List.set_cons_succ, not_false_eq_true, Nat.reduceMod, Nat.reduceDiv, Nat.reduceEqDiff, Nat.reduceLT, Nat.reduceLeDiff, Nat.reduceAdd, Nat.reduceSub, reduceIte, Nat.lt_irrefl, Nat.zero_ne_one, Nat.one_ne_zero, Nat.zero_add, List.nil_append, List.cons_append, Option.toList_some, Option.toList_none, forall_const, false_implies, true_implies, false_or, or_false, true_or, or_true, i_le, i_lt, i_eq, i_eq0, i_lt0, i_0le, i_0lt, i_le0, i_in1, i_cl, nI_add, pk_mul, pk_sub, i_div, i_rem, i_sh1, i_bit, i_or, i_and, i_andn, nt_le, nf_le, nt_lt, nf_lt, nt_eq, nf_eq, not_true_eq_false, and_self, and_false, false_and, eq_self, Bool.toNat_true, Bool.toNat_false, i_bool, i_bool1, Bool.false_eq_true, Bool.true_eq_false, reduceCtorEq, i_neg1, i_neg2, i_neg3, i_neg4, i_neg5, i_neg6, i_neg7, i_neg8, i_neg9, i_nega, i_negb, i_negc, i_max2, i_min2, hs, wi_nil]
      repeat (
        first
        | refine s_X8_day_0 ?_
        | refine s_X8_day_5 ?_
        | refine s_X8_day_13 ?_
        | refine s_X8_day_36 ?_
        | refine s_X8_day_38 ?_
        | refine s_X8_day_51 ?_
        | refine s_X8_day_58 ?_
        | refine s_X8_day_74 ?_
        | refine s_X8_day_84 ?_
        | refine s_X8_day_87 ?_
        | refine s_X8_day_95 ?_
        | refine s_X8_day_101 ?_
        | refine s_X8_day_108 ?_
        | refine s_X8_day_111 ?_
        | refine s_X8_day_115 ?_
        simp (disch := omega) only [B_X8_day_0, wi_aload_n, wi_iload_n, wi_invokevirtual, cnt_7, B_X8_day_5, wi_if_eq, B_X8_day_13, wi_iand, wi_if_ne, wi_ior, wi_getfield, fldv_7_3, fds_7_3, fldv_6_11, fds_6_11, cnt_6, B_X8_day_36, wi_iconst, wi_ireturn, B_X8_day_38, fldv_6_7, fds_6_7, wi_bipush, B_X8_day_51, B_X8_day_58, wi_iaload, fldv_6_9, fds_6_9, wi_icmp_gt, wi_invokestatic, B_X8_day_74, fldv_6_10, fds_6_10, wi_icmp_le, B_X8_day_84, B_X8_day_87, fldv_7_6, fds_7_6, cnt_0, B_X8_day_95, B_X8_day_101, B_X8_day_108, B_X8_day_111, B_X8_day_115, no0, no1, nz1, nz2, nz3, nz4, nz5, nz7, nz8, Classical.not_not, bz0, bz1, wi_nil, ld_0, ld_s, isIv_I, isLv_L, isRv_R, true_and, and_true, lset_0, lset_1, lset_s, avw_I, avw_L, avw_R, clr_cons, clr_nil, kst_0, kst_1, kstL_0, kstL_1, addk_I, pA_0, pA_s, pD_0, pD_s, wid_nil, wid_cons, rcv_c, putv_I, putv_L, List.length_cons, List.length_nil, List.set_cons_zero, List.set_cons_succ, not_false_eq_true, Nat.reduceMod, Nat.reduceDiv, Nat.reduceEqDiff, Nat.reduceLT, Nat.reduceLeDiff, Nat.reduceAdd, Nat.reduceSub, reduceIte, Nat.lt_irrefl, Nat.zero_ne_one, Nat.one_ne_zero, Nat.zero_add, List.nil_append, List.cons_append, Option.toList_some, Option.toList_none, forall_const, false_implies, true_implies, false_or, or_false, true_or, or_true, i_le, i_lt, i_eq, i_eq0, i_lt0, i_0le, i_0lt, i_le0, i_in1, i_cl, nI_add, pk_mul, pk_sub, i_div, i_rem, i_sh1, i_bit, i_or, i_and, i_andn, nt_le, nf_le, nt_lt, nf_lt, nt_eq, nf_eq, not_true_eq_false, and_self, and_false, false_and, eq_self, Bool.toNat_true, Bool.toNat_false, i_bool, i_bool1, Bool.false_eq_true, Bool.true_eq_false, reduceCtorEq, i_neg1, i_neg2, i_neg3, i_neg4, i_neg5, i_neg6, i_neg7, i_neg8, i_neg9, i_nega, i_negb, i_negc, i_max2, i_min2, hs])
      refine c_isSet hy hn5 ?_
      try simp (disch := omega) only [no0, no1, nz1, nz2, nz3, nz4, nz5, nz7, nz8, Classical.not_not, bz0, bz1, wi_nil, ld_0, ld_s, isIv_I, isLv_L, isRv_R, true_and, and_true, lset_0, lset_1, lset_s, avw_I, avw_L, avw_R, clr_cons, clr_nil, kst_0, kst_1, kstL_0, kstL_1, addk_I, pA_0, pA_s, pD_0, pD_s, wid_nil, wid_cons, rcv_c, putv_I, putv_L, List.length_cons, List.length_nil, List.set_cons_zero, List.set_cons_succ, not_false_eq_true, Nat.reduceMod, Nat.reduceDiv, Nat.reduceEqDiff, Nat.reduceLT, Nat.reduceLeDiff, Nat.reduceAdd, Nat.reduceSub, reduceIte, Nat.lt_irrefl, Nat.zero_ne_one, Nat.one_ne_zero, Nat.zero_add, List.nil_append, List.cons_append, Option.toList_some, Option.toList_none, forall_const, false_implies, true_implies, false_or, or_false, true_or, or_true, i_le, i_lt, i_eq, i_eq0, i_lt0, i_0le, i_0lt, i_le0, i_in1, i_cl, nI_add, pk_mul, pk_sub, i_div, i_rem, i_sh1, i_bit, i_or, i_and, i_andn, nt_le, nf_le, nt_lt, nf_lt, nt_eq, nf_eq, not_true_eq_false, and_self, and_false, false_and, eq_self, Bool.toNat_true, Bool.toNat_false, i_bool, i_bool1, Bool.false_eq_true, Bool.true_eq_false, reduceCtorEq, i_neg1, i_neg2, i_neg3, i_neg4, i_neg5, i_neg6, i_neg7, i_neg8, i_neg9, i_nega, i_negb, i_negc, i_max2, i_min2, hoo, wi_nil]
      repeat (
        first
        | refine s_X8_day_0 ?_
        | refine s_X8_day_5 ?_
        | refine s_X8_day_13 ?_
        | refine s_X8_day_36 ?_
        | refine s_X8_day_38 ?_
        | refine s_X8_day_51 ?_
        | refine s_X8_day_58 ?_
        | refine s_X8_day_74 ?_
        | refine s_X8_day_84 ?_
        | refine s_X8_day_87 ?_
        | refine s_X8_day_95 ?_
        | refine s_X8_day_101 ?_
        | refine s_X8_day_108 ?_
        | refine s_X8_day_111 ?_
        | refine s_X8_day_115 ?_
        simp (disch := omega) only [B_X8_day_0, wi_aload_n, wi_iload_n, wi_invokevirtual, cnt_7, B_X8_day_5, wi_if_eq, B_X8_day_13, wi_iand, wi_if_ne, wi_ior, wi_getfield, fldv_7_3, fds_7_3, fldv_6_11, fds_6_11, cnt_6, B_X8_day_36, wi_iconst, wi_ireturn, B_X8_day_38, fldv_6_7, fds_6_7, wi_bipush, B_X8_day_51, B_X8_day_58, wi_iaload, fldv_6_9, fds_6_9, wi_icmp_gt, wi_invokestatic, B_X8_day_74, fldv_6_10, fds_6_10, wi_icmp_le, B_X8_day_84, B_X8_day_87, fldv_7_6, fds_7_6, cnt_0, B_X8_day_95, B_X8_day_101, B_X8_day_108, B_X8_day_111, B_X8_day_115, no0, no1, nz1, nz2, nz3, nz4, nz5, nz7, nz8, Classical.not_not, bz0, bz1, wi_nil, ld_0, ld_s, isIv_I, isLv_L, isRv_R, true_and, and_true, lset_0, lset_1, lset_s, avw_I, avw_L, avw_R, clr_cons, clr_nil, kst_0, kst_1, kstL_0, kstL_1, addk_I, pA_0, pA_s, pD_0, pD_s, wid_nil, wid_cons, rcv_c, putv_I, putv_L, List.length_cons, List.length_nil, List.set_cons_zero, List.set_cons_succ, not_false_eq_true, Nat.reduceMod, Nat.reduceDiv, Nat.reduceEqDiff, Nat.reduceLT, Nat.reduceLeDiff, Nat.reduceAdd, Nat.reduceSub, reduceIte, Nat.lt_irrefl, Nat.zero_ne_one, Nat.one_ne_zero, Nat.zero_add, List.nil_append, List.cons_append, Option.toList_some, Option.toList_none, forall_const, false_implies, true_implies, false_or, or_false, true_or, or_true, i_le, i_lt, i_eq, i_eq0, i_lt0, i_0le, i_0lt, i_le0, i_in1, i_cl, nI_add, pk_mul, pk_sub, i_div, i_rem, i_sh1, i_bit, i_or, i_and, i_andn, nt_le, nf_le, nt_lt, nf_lt, nt_eq, nf_eq, not_true_eq_false, and_self, and_false, false_and, eq_self, Bool.toNat_true, Bool.toNat_false, i_bool, i_bool1, Bool.false_eq_true, Bool.true_eq_false, reduceCtorEq, i_neg1, i_neg2, i_neg3, i_neg4, i_neg5, i_neg6, i_neg7, i_neg8, i_neg9, i_nega, i_negb, i_negc, i_max2, i_min2, hoo])
      refine px ?_
      refine x_entry (ls2 := [aR 8 0, aI s, aI o, aU]) (Nat.le_of_ble_eq_true rfl) pl_9 rfl (Nat.le_of_ble_eq_true rfl) ?_
      try simp (disch := omega) only [no0, no1, nz1, nz2, nz3, nz4, nz5, nz7, nz8, Classical.not_not, bz0, bz1, wi_nil, ld_0, ld_s, isIv_I, isLv_L, isRv_R, true_and, and_true, lset_0, lset_1, lset_s, avw_I, avw_L, avw_R, clr_cons, clr_nil, kst_0, kst_1, kstL_0, kstL_1, addk_I, pA_0, pA_s, pD_0, pD_s, wid_nil, wid_cons, rcv_c, putv_I, putv_L, List.length_cons, List.length_nil, List.set_cons_zero, List.set_cons_succ, not_false_eq_true, Nat.reduceMod, Nat.reduceDiv, Nat.reduceEqDiff, Nat.reduceLT, Nat.reduceLeDiff, Nat.reduceAdd, Nat.reduceSub, reduceIte, Nat.lt_irrefl, Nat.zero_ne_one, Nat.one_ne_zero, Nat.zero_add, List.nil_append, List.cons_append, Option.toList_some, Option.toList_none, forall_const, false_implies, true_implies, false_or, or_false, true_or, or_true, i_le, i_lt, i_eq, i_eq0, i_lt0, i_0le, i_0lt, i_le0, i_in1, i_cl, nI_add, pk_mul, pk_sub, i_div, i_rem, i_sh1, i_bit, i_or, i_and, i_andn, nt_le, nf_le, nt_lt, nf_lt, nt_eq, nf_eq, not_true_eq_false, and_self, and_false, false_and, eq_self, Bool.toNat_true, Bool.toNat_false, i_bool, i_bool1, Bool.false_eq_true, Bool.true_eq_false, reduceCtorEq, i_neg1, i_neg2, i_neg3, i_neg4, i_neg5, i_neg6, i_neg7, i_neg8, i_neg9, i_nega, i_negb, i_negc, i_max2, i_min2, wi_nil]
      repeat (
        first
        | refine s_X9_day_0 ?_
        | refine s_X9_day_5 ?_
        | refine s_X9_day_13 ?_
        | refine s_X9_day_39 ?_
        | refine s_X9_day_40 ?_
        | refine s_X9_day_47 ?_
        | refine s_X9_day_57 ?_
        | refine s_X9_day_66 ?_
        | refine s_X9_day_79 ?_
        | refine s_X9_day_88 ?_
        | refine s_X9_day_91 ?_
        | refine s_X9_day_103 ?_
        | refine s_X9_day_107 ?_
        | refine s_X9_day_117 ?_
        | refine s_X9_day_121 ?_
        simp (disch := omega) only [B_X9_day_0, wi_aload_n, wi_iload_n, wi_invokevirtual, cnt_8, B_X9_day_5, wi_if_eq, B_X9_day_13, wi_iand, wi_if_ne, wi_ior, wi_getfield, fldv_8_20, fds_8_20, wi_iconst, wi_iaload, wi_goto, cnt_40, aTy_40, aLn_40, arr_40, B_X9_day_39, B_X9_day_40, wi_istore_n, wi_ireturn, B_X9_day_47, fldv_8_10, fds_8_10, wi_bipush, B_X9_day_57, B_X9_day_66, wi_icmp_gt, wi_invokestatic, B_X9_day_79, wi_icmp_le, B_X9_day_88, B_X9_day_91, fldv_8_22, fds_8_22, wi_icmp_ne, B_X9_day_103, B_X9_day_107, B_X9_day_117, B_X9_day_121, no0, no1, nz1, nz2, nz3, nz4, nz5, nz7, nz8, Classical.not_not, bz0, bz1, wi_nil, ld_0, ld_s, isIv_I, isLv_L, isRv_R, true_and, and_true, lset_0, lset_1, lset_s, avw_I, avw_L, avw_R, clr_cons, clr_nil, kst_0, kst_1, kstL_0, kstL_1, addk_I, pA_0, pA_s, pD_0, pD_s, wid_nil, wid_cons, rcv_c, putv_I, putv_L, List.length_cons, List.length_nil, List.set_cons_zero, List.set_cons_succ, not_false_eq_true, Nat.reduceMod, Nat.reduceDiv, Nat.reduceEqDiff, Nat.reduceLT, Nat.reduceLeDiff, Nat.reduceAdd, Nat.reduceSub, reduceIte, Nat.lt_irrefl, Nat.zero_ne_one, Nat.one_ne_zero, Nat.zero_add, List.nil_append, List.cons_append, Option.toList_some, Option.toList_none, forall_const, false_implies, true_implies, false_or, or_false, true_or, or_true, i_le, i_lt, i_eq, i_eq0, i_lt0, i_0le, i_0lt, i_le0, i_in1, i_cl, nI_add, pk_mul, pk_sub, i_div, i_rem, i_sh1, i_bit, i_or, i_and, i_andn, nt_le, nf_le, nt_lt, nf_lt, nt_eq, nf_eq, not_true_eq_false, and_self, and_false, false_and, eq_self, Bool.toNat_true, Bool.toNat_false, i_bool, i_bool1, Bool.false_eq_true, Bool.true_eq_false, reduceCtorEq, i_neg1, i_neg2, i_neg3, i_neg4, i_neg5, i_neg6, i_neg7, i_neg8, i_neg9, i_nega, i_negb, i_negc, i_max2, i_min2])
      refine c_mSet hm hn5 ?_
      try simp (disch := omega) only [no0, no1, nz1, nz2, nz3, nz4, nz5, nz7, nz8, Classical.not_not, bz0, bz1, wi_nil, ld_0, ld_s, isIv_I, isLv_L, isRv_R, true_and, and_true, lset_0, lset_1, lset_s, avw_I, avw_L, avw_R, clr_cons, clr_nil, kst_0, kst_1, kstL_0, kstL_1, addk_I, pA_0, pA_s, pD_0, pD_s, wid_nil, wid_cons, rcv_c, putv_I, putv_L, List.length_cons, List.length_nil, List.set_cons_zero, List.set_cons_succ, not_false_eq_true, Nat.reduceMod, Nat.reduceDiv, Nat.reduceEqDiff, Nat.reduceLT, Nat.reduceLeDiff, Nat.reduceAdd, Nat.reduceSub, reduceIte, Nat.lt_irrefl, Nat.zero_ne_one, Nat.one_ne_zero, Nat.zero_add, List.nil_append, List.cons_append, Option.toList_some, Option.toList_none, forall_const, false_implies, true_implies, false_or, or_false, true_or, or_true, i_le, i_lt, i_eq, i_eq0, i_lt0, i_0le, i_0lt, i_le0, i_in1, i_cl, nI_add, pk_mul, pk_sub, i_div, i_rem, i_sh1, i_bit, i_or, i_and, i_andn, nt_le, nf_le, nt_lt, nf_lt, nt_eq, nf_eq, not_true_eq_false, and_self, and_false, false_and, eq_self, Bool.toNat_true, Bool.toNat_false, i_bool, i_bool1, Bool.false_eq_true, Bool.true_eq_false, reduceCtorEq, i_neg1, i_neg2, i_neg3, i_neg4, i_neg5, i_neg6, i_neg7, i_neg8, i_neg9, i_nega, i_negb, i_negc, i_max2, i_min2, hs, wi_nil]
      repeat (
        first
        | refine s_X9_day_0 ?_
        | refine s_X9_day_5 ?_
        | refine s_X9_day_13 ?_
        | refine s_X9_day_39 ?_
        | refine s_X9_day_40 ?_
        | refine s_X9_day_47 ?_
        | refine s_X9_day_57 ?_
        | refine s_X9_day_66 ?_
        | refine s_X9_day_79 ?_
        | refine s_X9_day_88 ?_
        | refine s_X9_day_91 ?_
        | refine s_X9_day_103 ?_
        | refine s_X9_day_107 ?_
        | refine s_X9_day_117 ?_
        | refine s_X9_day_121 ?_
        simp (disch := omega) only [B_X9_day_0, wi_aload_n, wi_iload_n, wi_invokevirtual, cnt_8, B_X9_day_5, wi_if_eq, B_X9_day_13, wi_iand, wi_if_ne, wi_ior, wi_getfield, fldv_8_20, fds_8_20, wi_iconst, wi_iaload, wi_goto, cnt_40, aTy_40, aLn_40, arr_40, B_X9_day_39, B_X9_day_40, wi_istore_n, wi_ireturn, B_X9_day_47, fldv_8_10, fds_8_10, wi_bipush, B_X9_day_57, B_X9_day_66, wi_icmp_gt, wi_invokestatic, B_X9_day_79, wi_icmp_le, B_X9_day_88, B_X9_day_91, fldv_8_22, fds_8_22, wi_icmp_ne, B_X9_day_103, B_X9_day_107, B_X9_day_117, B_X9_day_121, no0, no1, nz1, nz2, nz3, nz4, nz5, nz7, nz8, Classical.not_not, bz0, bz1, wi_nil, ld_0, ld_s, isIv_I, isLv_L, isRv_R, true_and, and_true, lset_0, lset_1, lset_s, avw_I, avw_L, avw_R, clr_cons, clr_nil, kst_0, kst_1, kstL_0, kstL_1, addk_I, pA_0, pA_s, pD_0, pD_s, wid_nil, wid_cons, rcv_c, putv_I, putv_L, List.length_cons, List.length_nil, List.set_cons_zero, List.set_cons_succ, not_false_eq_true, Nat.reduceMod, Nat.reduceDiv, Nat.reduceEqDiff, Nat.reduceLT, Nat.reduceLeDiff, Nat.reduceAdd, Nat.reduceSub, reduceIte, Nat.lt_irrefl, Nat.zero_ne_one, Nat.one_ne_zero, Nat.zero_add, List.nil_append, List.cons_append, Option.toList_some, Option.toList_none, forall_const, false_implies, true_implies, false_or, or_false, true_or, or_true, i_le, i_lt, i_eq, i_eq0, i_lt0, i_0le, i_0lt, i_le0, i_in1, i_cl, nI_add, pk_mul, pk_sub, i_div, i_rem, i_sh1, i_bit, i_or, i_and, i_andn, nt_le, nf_le, nt_lt, nf_lt, nt_eq, nf_eq, not_true_eq_false, and_self, and_false, false_and, eq_self, Bool.toNat_true, Bool.toNat_false, i_bool, i_bool1, Bool.false_eq_true, Bool.true_eq_false, reduceCtorEq, i_neg1, i_neg2, i_neg3, i_neg4, i_neg5, i_neg6, i_neg7, i_neg8, i_neg9, i_nega, i_negb, i_negc, i_max2, i_min2, hs])
      refine c_mSet hm hn5 ?_
      try simp (disch := omega) only [no0, no1, nz1, nz2, nz3, nz4, nz5, nz7, nz8, Classical.not_not, bz0, bz1, wi_nil, ld_0, ld_s, isIv_I, isLv_L, isRv_R, true_and, and_true, lset_0, lset_1, lset_s, avw_I, avw_L, avw_R, clr_cons, clr_nil, kst_0, kst_1, kstL_0, kstL_1, addk_I, pA_0, pA_s, pD_0, pD_s, wid_nil, wid_cons, rcv_c, putv_I, putv_L, List.length_cons, List.length_nil, List.set_cons_zero, List.set_cons_succ, not_false_eq_true, Nat.reduceMod, Nat.reduceDiv, Nat.reduceEqDiff, Nat.reduceLT, Nat.reduceLeDiff, Nat.reduceAdd, Nat.reduceSub, reduceIte, Nat.lt_irrefl, Nat.zero_ne_one, Nat.one_ne_zero, Nat.zero_add, List.nil_append, List.cons_append, Option.toList_some, Option.toList_none, forall_const, false_implies, true_implies, false_or, or_false, true_or, or_true, i_le, i_lt, i_eq, i_eq0, i_lt0, i_0le, i_0lt, i_le0, i_in1, i_cl, nI_add, pk_mul, pk_sub, i_div, i_rem, i_sh1, i_bit, i_or, i_and, i_andn, nt_le, nf_le, nt_lt, nf_lt, nt_eq, nf_eq, not_true_eq_false, and_self, and_false, false_and, eq_self, Bool.toNat_true, Bool.toNat_false, i_bool, i_bool1, Bool.false_eq_true, Bool.true_eq_false, reduceCtorEq, i_neg1, i_neg2, i_neg3, i_neg4, i_neg5, i_neg6, i_neg7, i_neg8, i_neg9, i_nega, i_negb, i_negc, i_max2, i_min2, hoo, wi_nil]
      repeat (
        first
        | refine s_X9_day_0 ?_
        | refine s_X9_day_5 ?_
        | refine s_X9_day_13 ?_
        | refine s_X9_day_39 ?_
        | refine s_X9_day_40 ?_
        | refine s_X9_day_47 ?_
        | refine s_X9_day_57 ?_
        | refine s_X9_day_66 ?_
        | refine s_X9_day_79 ?_
        | refine s_X9_day_88 ?_
        | refine s_X9_day_91 ?_
        | refine s_X9_day_103 ?_
        | refine s_X9_day_107 ?_
        | refine s_X9_day_117 ?_
        | refine s_X9_day_121 ?_
        simp (disch := omega) only [B_X9_day_0, wi_aload_n, wi_iload_n, wi_invokevirtual, cnt_8, B_X9_day_5, wi_if_eq, B_X9_day_13, wi_iand, wi_if_ne, wi_ior, wi_getfield, fldv_8_20, fds_8_20, wi_iconst, wi_iaload, wi_goto, cnt_40, aTy_40, aLn_40, arr_40, B_X9_day_39, B_X9_day_40, wi_istore_n, wi_ireturn, B_X9_day_47, fldv_8_10, fds_8_10, wi_bipush, B_X9_day_57, B_X9_day_66, wi_icmp_gt, wi_invokestatic, B_X9_day_79, wi_icmp_le, B_X9_day_88, B_X9_day_91, fldv_8_22, fds_8_22, wi_icmp_ne, B_X9_day_103, B_X9_day_107, B_X9_day_117, B_X9_day_121, no0, no1, nz1, nz2, nz3, nz4, nz5, nz7, nz8, Classical.not_not, bz0, bz1, wi_nil, ld_0, ld_s, isIv_I, isLv_L, isRv_R, true_and, and_true, lset_0, lset_1, lset_s, avw_I, avw_L, avw_R, clr_cons, clr_nil, kst_0, kst_1, kstL_0, kstL_1, addk_I, pA_0, pA_s, pD_0, pD_s, wid_nil, wid_cons, rcv_c, putv_I, putv_L, List.length_cons, List.length_nil, List.set_cons_zero, List.set_cons_succ, not_false_eq_true, Nat.reduceMod, Nat.reduceDiv, Nat.reduceEqDiff, Nat.reduceLT, Nat.reduceLeDiff, Nat.reduceAdd, Nat.reduceSub, reduceIte, Nat.lt_irrefl, Nat.zero_ne_one, Nat.one_ne_zero, Nat.zero_add, List.nil_append, List.cons_append, Option.toList_some, Option.toList_none, forall_const, false_implies, true_implies, false_or, or_false, true_or, or_true, i_le, i_lt, i_eq, i_eq0, i_lt0, i_0le, i_0lt, i_le0, i_in1, i_cl, nI_add, pk_mul, pk_sub, i_div, i_rem, i_sh1, i_bit, i_or, i_and, i_andn, nt_le, nf_le, nt_lt, nf_lt, nt_eq, nf_eq, not_true_eq_false, and_self, and_false, false_and, eq_self, Bool.toNat_true, Bool.toNat_false, i_bool, i_bool1, Bool.false_eq_true, Bool.true_eq_false, reduceCtorEq, i_neg1, i_neg2, i_neg3, i_neg4, i_neg5, i_neg6, i_neg7, i_neg8, i_neg9, i_nega, i_negb, i_negc, i_max2, i_min2, hoo])
      exact pm h
    · obtain ⟨s, hs2, rfl⟩ := inb_nat hs
      obtain ⟨o, ho2, rfl⟩ := inb_nat hoo
      have a1 : s &&& o < 32 := and_lt32 (by omega)
      have a2 : (s ||| o) &&& Y 6 4 < 32 := and_lt32 (Nat.or_lt_two_pow (n := 5) (by omega) (by omega))
      by_cases c1 : s &&& o = 0
      · by_cases c2 : (s ||| o) &&& Y 6 4 = 0
        · rcases Nat.eq_zero_or_pos (Y 6 0) with e0 | e0
          · refine x_entry (ls2 := [aR 7 0, aI (nI s), aI (nI o)]) (Nat.le_of_ble_eq_true rfl) pl_8 rfl (Nat.le_of_ble_eq_true rfl) ?_
            try simp (disch := omega) only [no0, no1, nz1, nz2, nz3, nz4, nz5, nz7, nz8, Classical.not_not, bz0, bz1, wi_nil, ld_0, ld_s, isIv_I, isLv_L, isRv_R, true_and, and_true, lset_0, lset_1, lset_s, avw_I, avw_L, avw_R, clr_cons, clr_nil, kst_0, kst_1, kstL_0, kstL_1, addk_I, pA_0, pA_s, pD_0, pD_s, wid_nil, wid_cons, rcv_c, putv_I, putv_L, List.length_cons, List.length_nil, List.set_cons_zero, List.set_cons_succ, not_false_eq_true, Nat.reduceMod, Nat.reduceDiv, Nat.reduceEqDiff, Nat.reduceLT, Nat.reduceLeDiff, Nat.reduceAdd, Nat.reduceSub, reduceIte, Nat.lt_irrefl, Nat.zero_ne_one, Nat.one_ne_zero, Nat.zero_add, List.nil_append, List.cons_append, Option.toList_some, Option.toList_none, forall_const, false_implies, true_implies, false_or, or_false, true_or, or_true, i_le, i_lt, i_eq, i_eq0, i_lt0, i_0le, i_0lt, i_le0, i_in1, i_cl, nI_add, pk_mul, pk_sub, i_div, i_rem, i_sh1, i_bit, i_or, i_and, i_andn, nt_le, nf_le, nt_lt, nf_lt, nt_eq, nf_eq, not_true_eq_false, and_self, and_false, false_and, eq_self, Bool.toNat_true, Bool.toNat_false, i_bool, i_bool1, Bool.false_eq_true, Bool.true_eq_false, reduceCtorEq, i_neg1, i_neg2, i_neg3, i_neg4, i_neg5, i_neg6, i_neg7, i_neg8, i_neg9, i_nega, i_negb, i_negc, i_max2, i_min2, wi_nil]
            repeat (
              first
              | refine s_X8_day_0 ?_
              | refine s_X8_day_5 ?_
              | refine s_X8_day_13 ?_
              | refine s_X8_day_36 ?_
              | refine s_X8_day_38 ?_
              | refine s_X8_day_51 ?_
              | refine s_X8_day_58 ?_
              | refine s_X8_day_74 ?_
              | refine s_X8_day_84 ?_
              | refine s_X8_day_87 ?_
              | refine s_X8_day_95 ?_
              | refine s_X8_day_101 ?_
              | refine s_X8_day_108 ?_
              | refine s_X8_day_111 ?_
              | refine s_X8_day_115 ?_
              simp (disch := omega) only [B_X8_day_0, wi_aload_n, wi_iload_n, wi_invokevirtual, cnt_7, B_X8_day_5, wi_if_eq, B_X8_day_13, wi_iand, wi_if_ne, wi_ior, wi_getfield, fldv_7_3, fds_7_3, fldv_6_11, fds_6_11, cnt_6, B_X8_day_36, wi_iconst, wi_ireturn, B_X8_day_38, fldv_6_7, fds_6_7, wi_bipush, B_X8_day_51, B_X8_day_58, wi_iaload, fldv_6_9, fds_6_9, wi_icmp_gt, wi_invokestatic, B_X8_day_74, fldv_6_10, fds_6_10, wi_icmp_le, B_X8_day_84, B_X8_day_87, fldv_7_6, fds_7_6, cnt_0, B_X8_day_95, B_X8_day_101, B_X8_day_108, B_X8_day_111, B_X8_day_115, no0, no1, nz1, nz2, nz3, nz4, nz5, nz7, nz8, Classical.not_not, bz0, bz1, wi_nil, ld_0, ld_s, isIv_I, isLv_L, isRv_R, true_and, and_true, lset_0, lset_1, lset_s, avw_I, avw_L, avw_R, clr_cons, clr_nil, kst_0, kst_1, kstL_0, kstL_1, addk_I, pA_0, pA_s, pD_0, pD_s, wid_nil, wid_cons, rcv_c, putv_I, putv_L, List.length_cons, List.length_nil, List.set_cons_zero, List.set_cons_succ, not_false_eq_true, Nat.reduceMod, Nat.reduceDiv, Nat.reduceEqDiff, Nat.reduceLT, Nat.reduceLeDiff, Nat.reduceAdd, Nat.reduceSub, reduceIte, Nat.lt_irrefl, Nat.zero_ne_one, Nat.one_ne_zero, Nat.zero_add, List.nil_append, List.cons_append, Option.toList_some, Option.toList_none, forall_const, false_implies, true_implies, false_or, or_false, true_or, or_true, i_le, i_lt, i_eq, i_eq0, i_lt0, i_0le, i_0lt, i_le0, i_in1, i_cl, nI_add, pk_mul, pk_sub, i_div, i_rem, i_sh1, i_bit, i_or, i_and, i_andn, nt_le, nf_le, nt_lt, nf_lt, nt_eq, nf_eq, not_true_eq_false, and_self, and_false, false_and, eq_self, Bool.toNat_true, Bool.toNat_false, i_bool, i_bool1, Bool.false_eq_true, Bool.true_eq_false, reduceCtorEq, i_neg1, i_neg2, i_neg3, i_neg4, i_neg5, i_neg6, i_neg7, i_neg8, i_neg9, i_nega, i_negb, i_negc, i_max2, i_min2])
            refine c_isSet hy hn5 ?_
            try simp (disch := omega) only [no0, no1, nz1, nz2, nz3, nz4, nz5, nz7, nz8, Classical.not_not, bz0, bz1, wi_nil, ld_0, ld_s, isIv_I, isLv_L, isRv_R, true_and, and_true, lset_0, lset_1, lset_s, avw_I, avw_L, avw_R, clr_cons, clr_nil, kst_0, kst_1, kstL_0, kstL_1, addk_I, pA_0, pA_s, pD_0, pD_s, wid_nil, wid_cons, rcv_c, putv_I, putv_L, List.length_cons, List.length_nil, List.set_cons_zero, List.set_cons_succ, not_false_eq_true, Nat.reduceMod, Nat.reduceDiv, Nat.reduceEqDiff, Nat.reduceLT, Nat.reduceLeDiff, Nat.reduceAdd, Nat.reduceSub, reduceIte, Nat.lt_irrefl, Nat.zero_ne_one, Nat.one_ne_zero, Nat.zero_add, List.nil_append, List.cons_append, Option.toList_some, Option.toList_none, forall_const, false_implies, true_implies, false_or, or_false, true_or, or_true, i_le, i_lt, i_eq, i_eq0, i_lt0, i_0le, i_0lt, i_le0, i_in1, i_cl, nI_add, pk_mul, pk_sub, i_div, i_rem, i_sh1, i_bit, i_or, i_and, i_andn, nt_le, nf_le, nt_lt, nf_lt, nt_eq, nf_eq, not_true_eq_false, and_self, and_false, false_and, eq_self, Bool.toNat_true, Bool.toNat_false, i_bool, i_bool1, Bool.false_eq_true, Bool.true_eq_false, reduceCtorEq, i_neg1, i_neg2, i_neg3, i_neg4, i_neg5, i_neg6, i_neg7, i_neg8, i_neg9, i_nega, i_negb, i_negc, i_max2, i_min2, hs, wi_nil]
            repeat (
              first
              | refine s_X8_day_0 ?_
              | refine s_X8_day_5 ?_
              | refine s_X8_day_13 ?_
              | refine s_X8_day_36 ?_
              | refine s_X8_day_38 ?_
              | refine s_X8_day_51 ?_
              | refine s_X8_day_58 ?_
              | refine s_X8_day_74 ?_
              | refine s_X8_day_84 ?_
              | refine s_X8_day_87 ?_
              | refine s_X8_day_95 ?_
              | refine s_X8_day_101 ?_
              | refine s_X8_day_108 ?_
              | refine s_X8_day_111 ?_
              | refine s_X8_day_115 ?_
              simp (disch := omega) only [B_X8_day_0, wi_aload_n, wi_iload_n, wi_invokevirtual, cnt_7, B_X8_day_5, wi_if_eq, B_X8_day_13, wi_iand, wi_if_ne, wi_ior, wi_getfield, fldv_7_3, fds_7_3, fldv_6_11, fds_6_11, cnt_6, B_X8_day_36, wi_iconst, wi_ireturn, B_X8_day_38, fldv_6_7, fds_6_7, wi_bipush, B_X8_day_51, B_X8_day_58, wi_iaload, fldv_6_9, fds_6_9, wi_icmp_gt, wi_invokestatic, B_X8_day_74, fldv_6_10, fds_6_10, wi_icmp_le, B_X8_day_84, B_X8_day_87, fldv_7_6, fds_7_6, cnt_0, B_X8_day_95, B_X8_day_101, B_X8_day_108, B_X8_day_111, B_X8_day_115, no0, no1, nz1, nz2, nz3, nz4, nz5, nz7, nz8, Classical.not_not, bz0, bz1, wi_nil, ld_0, ld_s, isIv_I, isLv_L, isRv_R, true_and, and_true, lset_0, lset_1, lset_s, avw_I, avw_L, avw_R, clr_cons, clr_nil, kst_0, kst_1, kstL_0, kstL_1, addk_I, pA_0, pA_s, pD_0, pD_s, wid_nil, wid_cons, rcv_c, putv_I, putv_L, List.length_cons, List.length_nil, List.set_cons_zero, List.set_cons_succ, not_false_eq_true, Nat.reduceMod, Nat.reduceDiv, Nat.reduceEqDiff, Nat.reduceLT, Nat.reduceLeDiff, Nat.reduceAdd, Nat.reduceSub, reduceIte, Nat.lt_irrefl, Nat.zero_ne_one, Nat.one_ne_zero, Nat.zero_add, List.nil_append, List.cons_append, Option.toList_some, Option.toList_none, forall_const, false_implies, true_implies, false_or, or_false, true_or, or_true, i_le, i_lt, i_eq, i_eq0, i_lt0, i_0le, i_0lt, i_le0, i_in1, i_cl, nI_add, pk_mul, pk_sub, i_div, i_rem, i_sh1, i_bit, i_or, i_and, i_andn, nt_le, nf_le, nt_lt, nf_lt, nt_eq, nf_eq, not_true_eq_false, and_self, and_false, false_and, eq_self, Bool.toNat_true, Bool.toNat_false, i_bool, i_bool1, Bool.false_eq_true, Bool.true_eq_false, reduceCtorEq, i_neg1, i_neg2, i_neg3, i_neg4, i_neg5, i_neg6, i_neg7, i_neg8, i_neg9, i_nega, i_negb, i_negc, i_max2, i_min2, hs])
            refine c_isSet hy hn5 ?_
            try simp (disch := omega) only [no0, no1, nz1, nz2, nz3, nz4, nz5, nz7, nz8, Classical.not_not, bz0, bz1, wi_nil, ld_0, ld_s, isIv_I, isLv_L, isRv_R, true_and, and_true, lset_0, lset_1, lset_s, avw_I, avw_L, avw_R, clr_cons, clr_nil, kst_0, kst_1, kstL_0, kstL_1, addk_I, pA_0, pA_s, pD_0, pD_s, wid_nil, wid_cons, rcv_c, putv_I, putv_L, List.length_cons, List.length_nil, List.set_cons_zero, List.set_cons_succ, not_false_eq_true, Nat.reduceMod, Nat.reduceDiv, Nat.reduceEqDiff, Nat.reduceLT, Nat.reduceLeDiff, Nat.reduceAdd, Nat.reduceSub, reduceIte, Nat.lt_irrefl, Nat.zero_ne_one, Nat.one_ne_zero, Nat.zero_add, List.nil_append, List.cons_append, Option.toList_some, Option.toList_none, forall_const, false_implies, true_implies, false_or, or_false, true_or, or_true, i_le, i_lt, i_eq, i_eq0, i_lt0, i_0le, i_0lt, i_le0, i_in1, i_cl, nI_add, pk_mul, pk_sub, i_div, i_rem, i_sh1, i_bit, i_or, i_and, i_andn, nt_le, nf_le, nt_lt, nf_lt, nt_eq, nf_eq, not_true_eq_false, and_self, and_false, false_and, eq_self, Bool.toNat_true, Bool.toNat_false, i_bool, i_bool1, Bool.false_eq_true, Bool.true_eq_false, reduceCtorEq, i_neg1, i_neg2, i_neg3, i_neg4, i_neg5, i_neg6, i_neg7, i_neg8, i_neg9, i_nega, i_negb, i_negc, i_max2, i_min2, hoo, (y_gone hy), (y_n hy), wi_nil]
            repeat (
              first
              | refine s_X8_day_0 ?_
              | refine s_X8_day_5 ?_
              | refine s_X8_day_13 ?_
              | refine s_X8_day_36 ?_
              | refine s_X8_day_38 ?_
              | refine s_X8_day_51 ?_
              | refine s_X8_day_58 ?_
              | refine s_X8_day_74 ?_
              | refine s_X8_day_84 ?_
              | refine s_X8_day_87 ?_
              | refine s_X8_day_95 ?_
              | refine s_X8_day_101 ?_
              | refine s_X8_day_108 ?_
              | refine s_X8_day_111 ?_
              | refine s_X8_day_115 ?_
              simp (disch := omega) only [B_X8_day_0, wi_aload_n, wi_iload_n, wi_invokevirtual, cnt_7, B_X8_day_5, wi_if_eq, B_X8_day_13, wi_iand, wi_if_ne, wi_ior, wi_getfield, fldv_7_3, fds_7_3, fldv_6_11, fds_6_11, cnt_6, B_X8_day_36, wi_iconst, wi_ireturn, B_X8_day_38, fldv_6_7, fds_6_7, wi_bipush, B_X8_day_51, B_X8_day_58, wi_iaload, fldv_6_9, fds_6_9, wi_icmp_gt, wi_invokestatic, B_X8_day_74, fldv_6_10, fds_6_10, wi_icmp_le, B_X8_day_84, B_X8_day_87, fldv_7_6, fds_7_6, cnt_0, B_X8_day_95, B_X8_day_101, B_X8_day_108, B_X8_day_111, B_X8_day_115, no0, no1, nz1, nz2, nz3, nz4, nz5, nz7, nz8, Classical.not_not, bz0, bz1, wi_nil, ld_0, ld_s, isIv_I, isLv_L, isRv_R, true_and, and_true, lset_0, lset_1, lset_s, avw_I, avw_L, avw_R, clr_cons, clr_nil, kst_0, kst_1, kstL_0, kstL_1, addk_I, pA_0, pA_s, pD_0, pD_s, wid_nil, wid_cons, rcv_c, putv_I, putv_L, List.length_cons, List.length_nil, List.set_cons_zero, List.set_cons_succ, not_false_eq_true, Nat.reduceMod, Nat.reduceDiv, Nat.reduceEqDiff, Nat.reduceLT, Nat.reduceLeDiff, Nat.reduceAdd, Nat.reduceSub, reduceIte, Nat.lt_irrefl, Nat.zero_ne_one, Nat.one_ne_zero, Nat.zero_add, List.nil_append, List.cons_append, Option.toList_some, Option.toList_none, forall_const, false_implies, true_implies, false_or, or_false, true_or, or_true, i_le, i_lt, i_eq, i_eq0, i_lt0, i_0le, i_0lt, i_le0, i_in1, i_cl, nI_add, pk_mul, pk_sub, i_div, i_rem, i_sh1, i_bit, i_or, i_and, i_andn, nt_le, nf_le, nt_lt, nf_lt, nt_eq, nf_eq, not_true_eq_false, and_self, and_false, false_and, eq_self, Bool.toNat_true, Bool.toNat_false, i_bool, i_bool1, Bool.false_eq_true, Bool.true_eq_false, reduceCtorEq, i_neg1, i_neg2, i_neg3, i_neg4, i_neg5, i_neg6, i_neg7, i_neg8, i_neg9, i_nega, i_negb, i_negc, i_max2, i_min2, hoo, (y_gone hy), (y_n hy)])
            refine px ?_
            refine x_entry (ls2 := [aR 8 0, aI (nI s), aI (nI o), aU]) (Nat.le_of_ble_eq_true rfl) pl_9 rfl (Nat.le_of_ble_eq_true rfl) ?_
            try simp (disch := omega) only [no0, no1, nz1, nz2, nz3, nz4, nz5, nz7, nz8, Classical.not_not, bz0, bz1, wi_nil, ld_0, ld_s, isIv_I, isLv_L, isRv_R, true_and, and_true, lset_0, lset_1, lset_s, avw_I, avw_L, avw_R, clr_cons, clr_nil, kst_0, kst_1, kstL_0, kstL_1, addk_I, pA_0, pA_s, pD_0, pD_s, wid_nil, wid_cons, rcv_c, putv_I, putv_L, List.length_cons, List.length_nil, List.set_cons_zero, List.set_cons_succ, not_false_eq_true, Nat.reduceMod, Nat.reduceDiv, Nat.reduceEqDiff, Nat.reduceLT, Nat.reduceLeDiff, Nat.reduceAdd, Nat.reduceSub, reduceIte, Nat.lt_irrefl, Nat.zero_ne_one, Nat.one_ne_zero, Nat.zero_add, List.nil_append, List.cons_append, Option.toList_some, Option.toList_none, forall_const, false_implies, true_implies, false_or, or_false, true_or, or_true, i_le, i_lt, i_eq, i_eq0, i_lt0, i_0le, i_0lt, i_le0, i_in1, i_cl, nI_add, pk_mul, pk_sub, i_div, i_rem, i_sh1, i_bit, i_or, i_and, i_andn, nt_le, nf_le, nt_lt, nf_lt, nt_eq, nf_eq, not_true_eq_false, and_self, and_false, false_and, eq_self, Bool.toNat_true, Bool.toNat_false, i_bool, i_bool1, Bool.false_eq_true, Bool.true_eq_false, reduceCtorEq, i_neg1, i_neg2, i_neg3, i_neg4, i_neg5, i_neg6, i_neg7, i_neg8, i_neg9, i_nega, i_negb, i_negc, i_max2, i_min2, wi_nil]
            repeat (
              first
              | refine s_X9_day_0 ?_
              | refine s_X9_day_5 ?_
              | refine s_X9_day_13 ?_
              | refine s_X9_day_39 ?_
              | refine s_X9_day_40 ?_
              | refine s_X9_day_47 ?_
              | refine s_X9_day_57 ?_
              | refine s_X9_day_66 ?_
              | refine s_X9_day_79 ?_
              | refine s_X9_day_88 ?_
              | refine s_X9_day_91 ?_
              | refine s_X9_day_103 ?_
              | refine s_X9_day_107 ?_
              | refine s_X9_day_117 ?_
              | refine s_X9_day_121 ?_
              simp (disch := omega) only [B_X9_day_0, wi_aload_n, wi_iload_n, wi_invokevirtual, cnt_8, B_X9_day_5, wi_if_eq, B_X9_day_13, wi_iand, wi_if_ne, wi_ior, wi_getfield, fldv_8_20, fds_8_20, wi_iconst, wi_iaload, wi_goto, cnt_40, aTy_40, aLn_40, arr_40, B_X9_day_39, B_X9_day_40, wi_istore_n, wi_ireturn, B_X9_day_47, fldv_8_10, fds_8_10, wi_bipush, B_X9_day_57, B_X9_day_66, wi_icmp_gt, wi_invokestatic, B_X9_day_79, wi_icmp_le, B_X9_day_88, B_X9_day_91, fldv_8_22, fds_8_22, wi_icmp_ne, B_X9_day_103, B_X9_day_107, B_X9_day_117, B_X9_day_121, no0, no1, nz1, nz2, nz3, nz4, nz5, nz7, nz8, Classical.not_not, bz0, bz1, wi_nil, ld_0, ld_s, isIv_I, isLv_L, isRv_R, true_and, and_true, lset_0, lset_1, lset_s, avw_I, avw_L, avw_R, clr_cons, clr_nil, kst_0, kst_1, kstL_0, kstL_1, addk_I, pA_0, pA_s, pD_0, pD_s, wid_nil, wid_cons, rcv_c, putv_I, putv_L, List.length_cons, List.length_nil, List.set_cons_zero, List.set_cons_succ, not_false_eq_true, Nat.reduceMod, Nat.reduceDiv, Nat.reduceEqDiff, Nat.reduceLT, Nat.reduceLeDiff, Nat.reduceAdd, Nat.reduceSub, reduceIte, Nat.lt_irrefl, Nat.zero_ne_one, Nat.one_ne_zero, Nat.zero_add, List.nil_append, List.cons_append, Option.toList_some, Option.toList_none, forall_const, false_implies, true_implies, false_or, or_false, true_or, or_true, i_le, i_lt, i_eq, i_eq0, i_lt0, i_0le, i_0lt, i_le0, i_in1, i_cl, nI_add, pk_mul, pk_sub, i_div, i_rem, i_sh1, i_bit, i_or, i_and, i_andn, nt_le, nf_le, nt_lt, nf_lt, nt_eq, nf_eq, not_true_eq_false, and_self, and_false, false_and, eq_self, Bool.toNat_true, Bool.toNat_false, i_bool, i_bool1, Bool.false_eq_true, Bool.true_eq_false, reduceCtorEq, i_neg1, i_neg2, i_neg3, i_neg4, i_neg5, i_neg6, i_neg7, i_neg8, i_neg9, i_nega, i_negb, i_negc, i_max2, i_min2])
            refine c_mSet hm hn5 ?_
            try simp (disch := omega) only [no0, no1, nz1, nz2, nz3, nz4, nz5, nz7, nz8, Classical.not_not, bz0, bz1, wi_nil, ld_0, ld_s, isIv_I, isLv_L, isRv_R, true_and, and_true, lset_0, lset_1, lset_s, avw_I, avw_L, avw_R, clr_cons, clr_nil, kst_0, kst_1, kstL_0, kstL_1, addk_I, pA_0, pA_s, pD_0, pD_s, wid_nil, wid_cons, rcv_c, putv_I, putv_L, List.length_cons, List.length_nil, List.set_cons_zero, List.set_cons_succ, not_false_eq_true, Nat.reduceMod, Nat.reduceDiv, Nat.reduceEqDiff, Nat.reduceLT, Nat.reduceLeDiff, Nat.reduceAdd, Nat.reduceSub, reduceIte, Nat.lt_irrefl, Nat.zero_ne_one, Nat.one_ne_zero, Nat.zero_add, List.nil_append, List.cons_append, Option.toList_some, Option.toList_none, forall_const, false_implies, true_implies, false_or, or_false, true_or, or_true, i_le, i_lt, i_eq, i_eq0, i_lt0, i_0le, i_0lt, i_le0, i_in1, i_cl, nI_add, pk_mul, pk_sub, i_div, i_rem, i_sh1, i_bit, i_or, i_and, i_andn, nt_le, nf_le, nt_lt, nf_lt, nt_eq, nf_eq, not_true_eq_false, and_self, and_false, false_and, eq_self, Bool.toNat_true, Bool.toNat_false, i_bool, i_bool1, Bool.false_eq_true, Bool.true_eq_false, reduceCtorEq, i_neg1, i_neg2, i_neg3, i_neg4, i_neg5, i_neg6, i_neg7, i_neg8, i_neg9, i_nega, i_negb, i_negc, i_max2, i_min2, hs, wi_nil]
            repeat (
              first
              | refine s_X9_day_0 ?_
              | refine s_X9_day_5 ?_
              | refine s_X9_day_13 ?_
              | refine s_X9_day_39 ?_
              | refine s_X9_day_40 ?_
              | refine s_X9_day_47 ?_
              | refine s_X9_day_57 ?_
              | refine s_X9_day_66 ?_
              | refine s_X9_day_79 ?_
              | refine s_X9_day_88 ?_
              | refine s_X9_day_91 ?_
              | refine s_X9_day_103 ?_
              | refine s_X9_day_107 ?_
              | refine s_X9_day_117 ?_
              | refine s_X9_day_121 ?_
              simp (disch := omega) only [B_X9_day_0, wi_aload_n, wi_iload_n, wi_invokevirtual, cnt_8, B_X9_day_5, wi_if_eq, B_X9_day_13, wi_iand, wi_if_ne, wi_ior, wi_getfield, fldv_8_20, fds_8_20, wi_iconst, wi_iaload, wi_goto, cnt_40, aTy_40, aLn_40, arr_40, B_X9_day_39, B_X9_day_40, wi_istore_n, wi_ireturn, B_X9_day_47, fldv_8_10, fds_8_10, wi_bipush, B_X9_day_57, B_X9_day_66, wi_icmp_gt, wi_invokestatic, B_X9_day_79, wi_icmp_le, B_X9_day_88, B_X9_day_91, fldv_8_22, fds_8_22, wi_icmp_ne, B_X9_day_103, B_X9_day_107, B_X9_day_117, B_X9_day_121, no0, no1, nz1, nz2, nz3, nz4, nz5, nz7, nz8, Classical.not_not, bz0, bz1, wi_nil, ld_0, ld_s, isIv_I, isLv_L, isRv_R, true_and, and_true, lset_0, lset_1, lset_s, avw_I, avw_L, avw_R, clr_cons, clr_nil, kst_0, kst_1, kstL_0, kstL_1, addk_I, pA_0, pA_s, pD_0, pD_s, wid_nil, wid_cons, rcv_c, putv_I, putv_L, List.length_cons, List.length_nil, List.set_cons_zero, List.set_cons_succ, not_false_eq_true, Nat.reduceMod, Nat.reduceDiv, Nat.reduceEqDiff, Nat.reduceLT, Nat.reduceLeDiff, Nat.reduceAdd, Nat.reduceSub, reduceIte, Nat.lt_irrefl, Nat.zero_ne_one, Nat.one_ne_zero, Nat.zero_add, List.nil_append, List.cons_append, Option.toList_some, Option.toList_none, forall_const, false_implies, true_implies, false_or, or_false, true_or, or_true, i_le, i_lt, i_eq, i_eq0, i_lt0, i_0le, i_0lt, i_le0, i_in1, i_cl, nI_add, pk_mul, pk_sub, i_div, i_rem, i_sh1, i_bit, i_or, i_and, i_andn, nt_le, nf_le, nt_lt, nf_lt, nt_eq, nf_eq, not_true_eq_false, and_self, and_false, false_and, eq_self, Bool.toNat_true, Bool.toNat_false, i_bool, i_bool1, Bool.false_eq_true, Bool.true_eq_false, reduceCtorEq, i_neg1, i_neg2, i_neg3, i_neg4, i_neg5, i_neg6, i_neg7, i_neg8, i_neg9, i_nega, i_negb, i_negc, i_max2, i_min2, hs])
            refine c_mSet hm hn5 ?_
            try simp (disch := omega) only [no0, no1, nz1, nz2, nz3, nz4, nz5, nz7, nz8, Classical.not_not, bz0, bz1, wi_nil, ld_0, ld_s, isIv_I, isLv_L, isRv_R, true_and, and_true, lset_0, lset_1, lset_s, avw_I, avw_L, avw_R, clr_cons, clr_nil, kst_0, kst_1, kstL_0, kstL_1, addk_I, pA_0, pA_s, pD_0, pD_s, wid_nil, wid_cons, rcv_c, putv_I, putv_L, List.length_cons, List.length_nil, List.set_cons_zero, List.set_cons_succ, not_false_eq_true, Nat.reduceMod, Nat.reduceDiv, Nat.reduceEqDiff, Nat.reduceLT, Nat.reduceLeDiff, Nat.reduceAdd, Nat.reduceSub, reduceIte, Nat.lt_irrefl, Nat.zero_ne_one, Nat.one_ne_zero, Nat.zero_add, List.nil_append, List.cons_append, Option.toList_some, Option.toList_none, forall_const, false_implies, true_implies, false_or, or_false, true_or, or_true, i_le, i_lt, i_eq, i_eq0, i_lt0, i_0le, i_0lt, i_le0, i_in1, i_cl, nI_add, pk_mul, pk_sub, i_div, i_rem, i_sh1, i_bit, i_or, i_and, i_andn, nt_le, nf_le, nt_lt, nf_lt, nt_eq, nf_eq, not_true_eq_false, and_self, and_false, false_and, eq_self, Bool.toNat_true, Bool.toNat_false, i_bool, i_bool1, Bool.false_eq_true, Bool.true_eq_false, reduceCtorEq, i_neg1, i_neg2, i_neg3, i_neg4, i_neg5, i_neg6, i_neg7, i_neg8, i_neg9, i_nega, i_negb, i_negc, i_max2, i_min2, hoo, (m_gone hm), (m_n hm), wi_nil]
            repeat (
              first
              | refine s_X9_day_0 ?_
              | refine s_X9_day_5 ?_
              | refine s_X9_day_13 ?_
              | refine s_X9_day_39 ?_
              | refine s_X9_day_40 ?_
              | refine s_X9_day_47 ?_
              | refine s_X9_day_57 ?_
              | refine s_X9_day_66 ?_
              | refine s_X9_day_79 ?_
              | refine s_X9_day_88 ?_
              | refine s_X9_day_91 ?_
              | refine s_X9_day_103 ?_
              | refine s_X9_day_107 ?_
              | refine s_X9_day_117 ?_
              | refine s_X9_day_121 ?_
              simp (disch := omega) only [B_X9_day_0, wi_aload_n, wi_iload_n, wi_invokevirtual, cnt_8, B_X9_day_5, wi_if_eq, B_X9_day_13, wi_iand, wi_if_ne, wi_ior, wi_getfield, fldv_8_20, fds_8_20, wi_iconst, wi_iaload, wi_goto, cnt_40, aTy_40, aLn_40, arr_40, B_X9_day_39, B_X9_day_40, wi_istore_n, wi_ireturn, B_X9_day_47, fldv_8_10, fds_8_10, wi_bipush, B_X9_day_57, B_X9_day_66, wi_icmp_gt, wi_invokestatic, B_X9_day_79, wi_icmp_le, B_X9_day_88, B_X9_day_91, fldv_8_22, fds_8_22, wi_icmp_ne, B_X9_day_103, B_X9_day_107, B_X9_day_117, B_X9_day_121, no0, no1, nz1, nz2, nz3, nz4, nz5, nz7, nz8, Classical.not_not, bz0, bz1, wi_nil, ld_0, ld_s, isIv_I, isLv_L, isRv_R, true_and, and_true, lset_0, lset_1, lset_s, avw_I, avw_L, avw_R, clr_cons, clr_nil, kst_0, kst_1, kstL_0, kstL_1, addk_I, pA_0, pA_s, pD_0, pD_s, wid_nil, wid_cons, rcv_c, putv_I, putv_L, List.length_cons, List.length_nil, List.set_cons_zero, List.set_cons_succ, not_false_eq_true, Nat.reduceMod, Nat.reduceDiv, Nat.reduceEqDiff, Nat.reduceLT, Nat.reduceLeDiff, Nat.reduceAdd, Nat.reduceSub, reduceIte, Nat.lt_irrefl, Nat.zero_ne_one, Nat.one_ne_zero, Nat.zero_add, List.nil_append, List.cons_append, Option.toList_some, Option.toList_none, forall_const, false_implies, true_implies, false_or, or_false, true_or, or_true, i_le, i_lt, i_eq, i_eq0, i_lt0, i_0le, i_0lt, i_le0, i_in1, i_cl, nI_add, pk_mul, pk_sub, i_div, i_rem, i_sh1, i_bit, i_or, i_and, i_andn, nt_le, nf_le, nt_lt, nf_lt, nt_eq, nf_eq, not_true_eq_false, and_self, and_false, false_and, eq_self, Bool.toNat_true, Bool.toNat_false, i_bool, i_bool1, Bool.false_eq_true, Bool.true_eq_false, reduceCtorEq, i_neg1, i_neg2, i_neg3, i_neg4, i_neg5, i_neg6, i_neg7, i_neg8, i_neg9, i_nega, i_negb, i_negc, i_max2, i_min2, hoo, (m_gone hm), (m_n hm)])
            exact pm h
          · have hcs := csum_lt hok s
            have hbo := bct_lt (s := o) (by omega)
            have hbs := bct_lt (s := s) (by omega)
            refine x_entry (ls2 := [aR 7 0, aI (nI s), aI (nI o)]) (Nat.le_of_ble_eq_true rfl) pl_8 rfl (Nat.le_of_ble_eq_true rfl) ?_
            try simp (disch := omega) only [no0, no1, nz1, nz2, nz3, nz4, nz5, nz7, nz8, Classical.not_not, bz0, bz1, wi_nil, ld_0, ld_s, isIv_I, isLv_L, isRv_R, true_and, and_true, lset_0, lset_1, lset_s, avw_I, avw_L, avw_R, clr_cons, clr_nil, kst_0, kst_1, kstL_0, kstL_1, addk_I, pA_0, pA_s, pD_0, pD_s, wid_nil, wid_cons, rcv_c, putv_I, putv_L, List.length_cons, List.length_nil, List.set_cons_zero, List.set_cons_succ, not_false_eq_true, Nat.reduceMod, Nat.reduceDiv, Nat.reduceEqDiff, Nat.reduceLT, Nat.reduceLeDiff, Nat.reduceAdd, Nat.reduceSub, reduceIte, Nat.lt_irrefl, Nat.zero_ne_one, Nat.one_ne_zero, Nat.zero_add, List.nil_append, List.cons_append, Option.toList_some, Option.toList_none, forall_const, false_implies, true_implies, false_or, or_false, true_or, or_true, i_le, i_lt, i_eq, i_eq0, i_lt0, i_0le, i_0lt, i_le0, i_in1, i_cl, nI_add, pk_mul, pk_sub, i_div, i_rem, i_sh1, i_bit, i_or, i_and, i_andn, nt_le, nf_le, nt_lt, nf_lt, nt_eq, nf_eq, not_true_eq_false, and_self, and_false, false_and, eq_self, Bool.toNat_true, Bool.toNat_false, i_bool, i_bool1, Bool.false_eq_true, Bool.true_eq_false, reduceCtorEq, i_neg1, i_neg2, i_neg3, i_neg4, i_neg5, i_neg6, i_neg7, i_neg8, i_neg9, i_nega, i_negb, i_negc, i_max2, i_min2, wi_nil]
            repeat (
              first
              | refine s_X8_day_0 ?_
              | refine s_X8_day_5 ?_
              | refine s_X8_day_13 ?_
              | refine s_X8_day_36 ?_
              | refine s_X8_day_38 ?_
              | refine s_X8_day_51 ?_
              | refine s_X8_day_58 ?_
              | refine s_X8_day_74 ?_
              | refine s_X8_day_84 ?_
              | refine s_X8_day_87 ?_
              | refine s_X8_day_95 ?_
              | refine s_X8_day_101 ?_
              | refine s_X8_day_108 ?_
              | refine s_X8_day_111 ?_
              | refine s_X8_day_115 ?_
              simp (disch := omega) only [B_X8_day_0, wi_aload_n, wi_iload_n, wi_invokevirtual, cnt_7, B_X8_day_5, wi_if_eq, B_X8_day_13, wi_iand, wi_if_ne, wi_ior, wi_getfield, fldv_7_3, fds_7_3, fldv_6_11, fds_6_11, cnt_6, B_X8_day_36, wi_iconst, wi_ireturn, B_X8_day_38, fldv_6_7, fds_6_7, wi_bipush, B_X8_day_51, B_X8_day_58, wi_iaload, fldv_6_9, fds_6_9, wi_icmp_gt, wi_invokestatic, B_X8_day_74, fldv_6_10, fds_6_10, wi_icmp_le, B_X8_day_84, B_X8_day_87, fldv_7_6, fds_7_6, cnt_0, B_X8_day_95, B_X8_day_101, B_X8_day_108, B_X8_day_111, B_X8_day_115, no0, no1, nz1, nz2, nz3, nz4, nz5, nz7, nz8, Classical.not_not, bz0, bz1, wi_nil, ld_0, ld_s, isIv_I, isLv_L, isRv_R, true_and, and_true, lset_0, lset_1, lset_s, avw_I, avw_L, avw_R, clr_cons, clr_nil, kst_0, kst_1, kstL_0, kstL_1, addk_I, pA_0, pA_s, pD_0, pD_s, wid_nil, wid_cons, rcv_c, putv_I, putv_L, List.length_cons, List.length_nil, List.set_cons_zero, List.set_cons_succ, not_false_eq_true, Nat.reduceMod, Nat.reduceDiv, Nat.reduceEqDiff, Nat.reduceLT, Nat.reduceLeDiff, Nat.reduceAdd, Nat.reduceSub, reduceIte, Nat.lt_irrefl, Nat.zero_ne_one, Nat.one_ne_zero, Nat.zero_add, List.nil_append, List.cons_append, Option.toList_some, Option.toList_none, forall_const, false_implies, true_implies, false_or, or_false, true_or, or_true, i_le, i_lt, i_eq, i_eq0, i_lt0, i_0le, i_0lt, i_le0, i_in1, i_cl, nI_add, pk_mul, pk_sub, i_div, i_rem, i_sh1, i_bit, i_or, i_and, i_andn, nt_le, nf_le, nt_lt, nf_lt, nt_eq, nf_eq, not_true_eq_false, and_self, and_false, false_and, eq_self, Bool.toNat_true, Bool.toNat_false, i_bool, i_bool1, Bool.false_eq_true, Bool.true_eq_false, reduceCtorEq, i_neg1, i_neg2, i_neg3, i_neg4, i_neg5, i_neg6, i_neg7, i_neg8, i_neg9, i_nega, i_negb, i_negc, i_max2, i_min2])
            refine c_isSet hy hn5 ?_
            try simp (disch := omega) only [no0, no1, nz1, nz2, nz3, nz4, nz5, nz7, nz8, Classical.not_not, bz0, bz1, wi_nil, ld_0, ld_s, isIv_I, isLv_L, isRv_R, true_and, and_true, lset_0, lset_1, lset_s, avw_I, avw_L, avw_R, clr_cons, clr_nil, kst_0, kst_1, kstL_0, kstL_1, addk_I, pA_0, pA_s, pD_0, pD_s, wid_nil, wid_cons, rcv_c, putv_I, putv_L, List.length_cons, List.length_nil, List.set_cons_zero, List.set_cons_succ, not_false_eq_true, Nat.reduceMod, Nat.reduceDiv, Nat.reduceEqDiff, Nat.reduceLT, Nat.reduceLeDiff, Nat.reduceAdd, Nat.reduceSub, reduceIte, Nat.lt_irrefl, Nat.zero_ne_one, Nat.one_ne_zero, Nat.zero_add, List.nil_append, List.cons_append, Option.toList_some, Option.toList_none, forall_const, false_implies, true_implies, false_or, or_false, true_or, or_true, i_le, i_lt, i_eq, i_eq0, i_lt0, i_0le, i_0lt, i_le0, i_in1, i_cl, nI_add, pk_mul, pk_sub, i_div, i_rem, i_sh1, i_bit, i_or, i_and, i_andn, nt_le, nf_le, nt_lt, nf_lt, nt_eq, nf_eq, not_true_eq_false, and_self, and_false, false_and, eq_self, Bool.toNat_true, Bool.toNat_false, i_bool, i_bool1, Bool.false_eq_true, Bool.true_eq_false, reduceCtorEq, i_neg1, i_neg2, i_neg3, i_neg4, i_neg5, i_neg6, i_neg7, i_neg8, i_neg9, i_nega, i_negb, i_negc, i_max2, i_min2, hs, wi_nil]
            repeat (
              first
              | refine s_X8_day_0 ?_
              | refine s_X8_day_5 ?_
              | refine s_X8_day_13 ?_
              | refine s_X8_day_36 ?_
              | refine s_X8_day_38 ?_
              | refine s_X8_day_51 ?_
              | refine s_X8_day_58 ?_
              | refine s_X8_day_74 ?_
              | refine s_X8_day_84 ?_
              | refine s_X8_day_87 ?_
              | refine s_X8_day_95 ?_
              | refine s_X8_day_101 ?_
              | refine s_X8_day_108 ?_
              | refine s_X8_day_111 ?_
              | refine s_X8_day_115 ?_
              simp (disch := omega) only [B_X8_day_0, wi_aload_n, wi_iload_n, wi_invokevirtual, cnt_7, B_X8_day_5, wi_if_eq, B_X8_day_13, wi_iand, wi_if_ne, wi_ior, wi_getfield, fldv_7_3, fds_7_3, fldv_6_11, fds_6_11, cnt_6, B_X8_day_36, wi_iconst, wi_ireturn, B_X8_day_38, fldv_6_7, fds_6_7, wi_bipush, B_X8_day_51, B_X8_day_58, wi_iaload, fldv_6_9, fds_6_9, wi_icmp_gt, wi_invokestatic, B_X8_day_74, fldv_6_10, fds_6_10, wi_icmp_le, B_X8_day_84, B_X8_day_87, fldv_7_6, fds_7_6, cnt_0, B_X8_day_95, B_X8_day_101, B_X8_day_108, B_X8_day_111, B_X8_day_115, no0, no1, nz1, nz2, nz3, nz4, nz5, nz7, nz8, Classical.not_not, bz0, bz1, wi_nil, ld_0, ld_s, isIv_I, isLv_L, isRv_R, true_and, and_true, lset_0, lset_1, lset_s, avw_I, avw_L, avw_R, clr_cons, clr_nil, kst_0, kst_1, kstL_0, kstL_1, addk_I, pA_0, pA_s, pD_0, pD_s, wid_nil, wid_cons, rcv_c, putv_I, putv_L, List.length_cons, List.length_nil, List.set_cons_zero, List.set_cons_succ, not_false_eq_true, Nat.reduceMod, Nat.reduceDiv, Nat.reduceEqDiff, Nat.reduceLT, Nat.reduceLeDiff, Nat.reduceAdd, Nat.reduceSub, reduceIte, Nat.lt_irrefl, Nat.zero_ne_one, Nat.one_ne_zero, Nat.zero_add, List.nil_append, List.cons_append, Option.toList_some, Option.toList_none, forall_const, false_implies, true_implies, false_or, or_false, true_or, or_true, i_le, i_lt, i_eq, i_eq0, i_lt0, i_0le, i_0lt, i_le0, i_in1, i_cl, nI_add, pk_mul, pk_sub, i_div, i_rem, i_sh1, i_bit, i_or, i_and, i_andn, nt_le, nf_le, nt_lt, nf_lt, nt_eq, nf_eq, not_true_eq_false, and_self, and_false, false_and, eq_self, Bool.toNat_true, Bool.toNat_false, i_bool, i_bool1, Bool.false_eq_true, Bool.true_eq_false, reduceCtorEq, i_neg1, i_neg2, i_neg3, i_neg4, i_neg5, i_neg6, i_neg7, i_neg8, i_neg9, i_nega, i_negb, i_negc, i_max2, i_min2, hs])
            refine c_isSet hy hn5 ?_
            try simp (disch := omega) only [no0, no1, nz1, nz2, nz3, nz4, nz5, nz7, nz8, Classical.not_not, bz0, bz1, wi_nil, ld_0, ld_s, isIv_I, isLv_L, isRv_R, true_and, and_true, lset_0, lset_1, lset_s, avw_I, avw_L, avw_R, clr_cons, clr_nil, kst_0, kst_1, kstL_0, kstL_1, addk_I, pA_0, pA_s, pD_0, pD_s, wid_nil, wid_cons, rcv_c, putv_I, putv_L, List.length_cons, List.length_nil, List.set_cons_zero, List.set_cons_succ, not_false_eq_true, Nat.reduceMod, Nat.reduceDiv, Nat.reduceEqDiff, Nat.reduceLT, Nat.reduceLeDiff, Nat.reduceAdd, Nat.reduceSub, reduceIte, Nat.lt_irrefl, Nat.zero_ne_one, Nat.one_ne_zero, Nat.zero_add, List.nil_append, List.cons_append, Option.toList_some, Option.toList_none, forall_const, false_implies, true_implies, false_or, or_false, true_or, or_true, i_le, i_lt, i_eq, i_eq0, i_lt0, i_0le, i_0lt, i_le0, i_in1, i_cl, nI_add, pk_mul, pk_sub, i_div, i_rem, i_sh1, i_bit, i_or, i_and, i_andn, nt_le, nf_le, nt_lt, nf_lt, nt_eq, nf_eq, not_true_eq_false, and_self, and_false, false_and, eq_self, Bool.toNat_true, Bool.toNat_false, i_bool, i_bool1, Bool.false_eq_true, Bool.true_eq_false, reduceCtorEq, i_neg1, i_neg2, i_neg3, i_neg4, i_neg5, i_neg6, i_neg7, i_neg8, i_neg9, i_nega, i_negb, i_negc, i_max2, i_min2, hoo, (y_gone hy), (y_n hy), wi_nil]
            repeat (
              first
              | refine s_X8_day_0 ?_
              | refine s_X8_day_5 ?_
              | refine s_X8_day_13 ?_
              | refine s_X8_day_36 ?_
              | refine s_X8_day_38 ?_
              | refine s_X8_day_51 ?_
              | refine s_X8_day_58 ?_
              | refine s_X8_day_74 ?_
              | refine s_X8_day_84 ?_
              | refine s_X8_day_87 ?_
              | refine s_X8_day_95 ?_
              | refine s_X8_day_101 ?_
              | refine s_X8_day_108 ?_
              | refine s_X8_day_111 ?_
              | refine s_X8_day_115 ?_
              simp (disch := omega) only [B_X8_day_0, wi_aload_n, wi_iload_n, wi_invokevirtual, cnt_7, B_X8_day_5, wi_if_eq, B_X8_day_13, wi_iand, wi_if_ne, wi_ior, wi_getfield, fldv_7_3, fds_7_3, fldv_6_11, fds_6_11, cnt_6, B_X8_day_36, wi_iconst, wi_ireturn, B_X8_day_38, fldv_6_7, fds_6_7, wi_bipush, B_X8_day_51, B_X8_day_58, wi_iaload, fldv_6_9, fds_6_9, wi_icmp_gt, wi_invokestatic, B_X8_day_74, fldv_6_10, fds_6_10, wi_icmp_le, B_X8_day_84, B_X8_day_87, fldv_7_6, fds_7_6, cnt_0, B_X8_day_95, B_X8_day_101, B_X8_day_108, B_X8_day_111, B_X8_day_115, no0, no1, nz1, nz2, nz3, nz4, nz5, nz7, nz8, Classical.not_not, bz0, bz1, wi_nil, ld_0, ld_s, isIv_I, isLv_L, isRv_R, true_and, and_true, lset_0, lset_1, lset_s, avw_I, avw_L, avw_R, clr_cons, clr_nil, kst_0, kst_1, kstL_0, kstL_1, addk_I, pA_0, pA_s, pD_0, pD_s, wid_nil, wid_cons, rcv_c, putv_I, putv_L, List.length_cons, List.length_nil, List.set_cons_zero, List.set_cons_succ, not_false_eq_true, Nat.reduceMod, Nat.reduceDiv, Nat.reduceEqDiff, Nat.reduceLT, Nat.reduceLeDiff, Nat.reduceAdd, Nat.reduceSub, reduceIte, Nat.lt_irrefl, Nat.zero_ne_one, Nat.one_ne_zero, Nat.zero_add, List.nil_append, List.cons_append, Option.toList_some, Option.toList_none, forall_const, false_implies, true_implies, false_or, or_false, true_or, or_true, i_le, i_lt, i_eq, i_eq0, i_lt0, i_0le, i_0lt, i_le0, i_in1, i_cl, nI_add, pk_mul, pk_sub, i_div, i_rem, i_sh1, i_bit, i_or, i_and, i_andn, nt_le, nf_le, nt_lt, nf_lt, nt_eq, nf_eq, not_true_eq_false, and_self, and_false, false_and, eq_self, Bool.toNat_true, Bool.toNat_false, i_bool, i_bool1, Bool.false_eq_true, Bool.true_eq_false, reduceCtorEq, i_neg1, i_neg2, i_neg3, i_neg4, i_neg5, i_neg6, i_neg7, i_neg8, i_neg9, i_nega, i_negb, i_negc, i_max2, i_min2, hoo, (y_gone hy), (y_n hy)])
            refine c_weighed (by decide) hy hok (by decide) (fun r hr => ?_)
            have hrs := hr s (by omega)
            have hy2 := yrx_26 (j := 1) (r := r) hy
            have hm2 : YrM (sA S 26 1 r) 40 Y := hm
            by_cases c3 : Y 6 2 < csum (ycz Y) 5 s
            · try simp (disch := omega) only [no0, no1, nz1, nz2, nz3, nz4, nz5, nz7, nz8, Classical.not_not, bz0, bz1, wi_nil, ld_0, ld_s, isIv_I, isLv_L, isRv_R, true_and, and_true, lset_0, lset_1, lset_s, avw_I, avw_L, avw_R, clr_cons, clr_nil, kst_0, kst_1, kstL_0, kstL_1, addk_I, pA_0, pA_s, pD_0, pD_s, wid_nil, wid_cons, rcv_c, putv_I, putv_L, List.length_cons, List.length_nil, List.set_cons_zero, List.set_cons_succ, not_false_eq_true, Nat.reduceMod, Nat.reduceDiv, Nat.reduceEqDiff, Nat.reduceLT, Nat.reduceLeDiff, Nat.reduceAdd, Nat.reduceSub, reduceIte, Nat.lt_irrefl, Nat.zero_ne_one, Nat.one_ne_zero, Nat.zero_add, List.nil_append, List.cons_append, Option.toList_some, Option.toList_none, forall_const, false_implies, true_implies, false_or, or_false, true_or, or_true, i_le, i_lt, i_eq, i_eq0, i_lt0, i_0le, i_0lt, i_le0, i_in1, i_cl, nI_add, pk_mul, pk_sub, i_div, i_rem, i_sh1, i_bit, i_or, i_and, i_andn, nt_le, nf_le, nt_lt, nf_lt, nt_eq, nf_eq, not_true_eq_false, and_self, and_false, false_and, eq_self, Bool.toNat_true, Bool.toNat_false, i_bool, i_bool1, Bool.false_eq_true, Bool.true_eq_false, reduceCtorEq, i_neg1, i_neg2, i_neg3, i_neg4, i_neg5, i_neg6, i_neg7, i_neg8, i_neg9, i_nega, i_negb, i_negc, i_max2, i_min2, hrs, (y_will hy), gI_sI, gI_sL, gI_sA, gL_sI, gL_sL, gL_sA, gA_sI, gA_sL, gA_sA, sA_sA, wi_nil]
              repeat (
                first
                | refine s_X8_day_0 ?_
                | refine s_X8_day_5 ?_
                | refine s_X8_day_13 ?_
                | refine s_X8_day_36 ?_
                | refine s_X8_day_38 ?_
                | refine s_X8_day_51 ?_
                | refine s_X8_day_58 ?_
                | refine s_X8_day_74 ?_
                | refine s_X8_day_84 ?_
                | refine s_X8_day_87 ?_
                | refine s_X8_day_95 ?_
                | refine s_X8_day_101 ?_
                | refine s_X8_day_108 ?_
                | refine s_X8_day_111 ?_
                | refine s_X8_day_115 ?_
                simp (disch := omega) only [B_X8_day_0, wi_aload_n, wi_iload_n, wi_invokevirtual, cnt_7, B_X8_day_5, wi_if_eq, B_X8_day_13, wi_iand, wi_if_ne, wi_ior, wi_getfield, fldv_7_3, fds_7_3, fldv_6_11, fds_6_11, cnt_6, B_X8_day_36, wi_iconst, wi_ireturn, B_X8_day_38, fldv_6_7, fds_6_7, wi_bipush, B_X8_day_51, B_X8_day_58, wi_iaload, fldv_6_9, fds_6_9, wi_icmp_gt, wi_invokestatic, cnt_26, aTy_26, aLn_26, arr_26, B_X8_day_74, fldv_6_10, fds_6_10, wi_icmp_le, B_X8_day_84, B_X8_day_87, fldv_7_6, fds_7_6, cnt_0, B_X8_day_95, B_X8_day_101, B_X8_day_108, B_X8_day_111, B_X8_day_115, no0, no1, nz1, nz2, nz3, nz4, nz5, nz7, nz8, Classical.not_not, bz0, bz1, wi_nil, ld_0, ld_s, isIv_I, isLv_L, isRv_R, true_and, and_true, lset_0, lset_1, lset_s, avw_I, avw_L, avw_R, clr_cons, clr_nil, kst_0, kst_1, kstL_0, kstL_1, addk_I, pA_0, pA_s, pD_0, pD_s, wid_nil, wid_cons, rcv_c, putv_I, putv_L, List.length_cons, List.length_nil, List.set_cons_zero, List.set_cons_succ, not_false_eq_true, Nat.reduceMod, Nat.reduceDiv, Nat.reduceEqDiff, Nat.reduceLT, Nat.reduceLeDiff, Nat.reduceAdd, Nat.reduceSub, reduceIte, Nat.lt_irrefl, Nat.zero_ne_one, Nat.one_ne_zero, Nat.zero_add, List.nil_append, List.cons_append, Option.toList_some, Option.toList_none, forall_const, false_implies, true_implies, false_or, or_false, true_or, or_true, i_le, i_lt, i_eq, i_eq0, i_lt0, i_0le, i_0lt, i_le0, i_in1, i_cl, nI_add, pk_mul, pk_sub, i_div, i_rem, i_sh1, i_bit, i_or, i_and, i_andn, nt_le, nf_le, nt_lt, nf_lt, nt_eq, nf_eq, not_true_eq_false, and_self, and_false, false_and, eq_self, Bool.toNat_true, Bool.toNat_false, i_bool, i_bool1, Bool.false_eq_true, Bool.true_eq_false, reduceCtorEq, i_neg1, i_neg2, i_neg3, i_neg4, i_neg5, i_neg6, i_neg7, i_neg8, i_neg9, i_nega, i_negb, i_negc, i_max2, i_min2, hrs, (y_will hy), gI_sI, gI_sL, gI_sA, gL_sI, gL_sL, gL_sA, gA_sI, gA_sL, gA_sA, sA_sA])
              refine px ?_
              refine x_entry (ls2 := [aR 8 0, aI (nI s), aI (nI o), aU]) (Nat.le_of_ble_eq_true rfl) pl_9 rfl (Nat.le_of_ble_eq_true rfl) ?_
              try simp (disch := omega) only [no0, no1, nz1, nz2, nz3, nz4, nz5, nz7, nz8, Classical.not_not, bz0, bz1, wi_nil, ld_0, ld_s, isIv_I, isLv_L, isRv_R, true_and, and_true, lset_0, lset_1, lset_s, avw_I, avw_L, avw_R, clr_cons, clr_nil, kst_0, kst_1, kstL_0, kstL_1, addk_I, pA_0, pA_s, pD_0, pD_s, wid_nil, wid_cons, rcv_c, putv_I, putv_L, List.length_cons, List.length_nil, List.set_cons_zero, List.set_cons_succ, not_false_eq_true, Nat.reduceMod, Nat.reduceDiv, Nat.reduceEqDiff, Nat.reduceLT, Nat.reduceLeDiff, Nat.reduceAdd, Nat.reduceSub, reduceIte, Nat.lt_irrefl, Nat.zero_ne_one, Nat.one_ne_zero, Nat.zero_add, List.nil_append, List.cons_append, Option.toList_some, Option.toList_none, forall_const, false_implies, true_implies, false_or, or_false, true_or, or_true, i_le, i_lt, i_eq, i_eq0, i_lt0, i_0le, i_0lt, i_le0, i_in1, i_cl, nI_add, pk_mul, pk_sub, i_div, i_rem, i_sh1, i_bit, i_or, i_and, i_andn, nt_le, nf_le, nt_lt, nf_lt, nt_eq, nf_eq, not_true_eq_false, and_self, and_false, false_and, eq_self, Bool.toNat_true, Bool.toNat_false, i_bool, i_bool1, Bool.false_eq_true, Bool.true_eq_false, reduceCtorEq, i_neg1, i_neg2, i_neg3, i_neg4, i_neg5, i_neg6, i_neg7, i_neg8, i_neg9, i_nega, i_negb, i_negc, i_max2, i_min2, wi_nil]
              repeat (
                first
                | refine s_X9_day_0 ?_
                | refine s_X9_day_5 ?_
                | refine s_X9_day_13 ?_
                | refine s_X9_day_39 ?_
                | refine s_X9_day_40 ?_
                | refine s_X9_day_47 ?_
                | refine s_X9_day_57 ?_
                | refine s_X9_day_66 ?_
                | refine s_X9_day_79 ?_
                | refine s_X9_day_88 ?_
                | refine s_X9_day_91 ?_
                | refine s_X9_day_103 ?_
                | refine s_X9_day_107 ?_
                | refine s_X9_day_117 ?_
                | refine s_X9_day_121 ?_
                simp (disch := omega) only [B_X9_day_0, wi_aload_n, wi_iload_n, wi_invokevirtual, cnt_8, B_X9_day_5, wi_if_eq, B_X9_day_13, wi_iand, wi_if_ne, wi_ior, wi_getfield, fldv_8_20, fds_8_20, wi_iconst, wi_iaload, wi_goto, cnt_40, aTy_40, aLn_40, arr_40, B_X9_day_39, B_X9_day_40, wi_istore_n, wi_ireturn, B_X9_day_47, fldv_8_10, fds_8_10, wi_bipush, B_X9_day_57, B_X9_day_66, wi_icmp_gt, wi_invokestatic, B_X9_day_79, wi_icmp_le, B_X9_day_88, B_X9_day_91, fldv_8_22, fds_8_22, wi_icmp_ne, B_X9_day_103, B_X9_day_107, B_X9_day_117, B_X9_day_121, no0, no1, nz1, nz2, nz3, nz4, nz5, nz7, nz8, Classical.not_not, bz0, bz1, wi_nil, ld_0, ld_s, isIv_I, isLv_L, isRv_R, true_and, and_true, lset_0, lset_1, lset_s, avw_I, avw_L, avw_R, clr_cons, clr_nil, kst_0, kst_1, kstL_0, kstL_1, addk_I, pA_0, pA_s, pD_0, pD_s, wid_nil, wid_cons, rcv_c, putv_I, putv_L, List.length_cons, List.length_nil, List.set_cons_zero, List.set_cons_succ, not_false_eq_true, Nat.reduceMod, Nat.reduceDiv, Nat.reduceEqDiff, Nat.reduceLT, Nat.reduceLeDiff, Nat.reduceAdd, Nat.reduceSub, reduceIte, Nat.lt_irrefl, Nat.zero_ne_one, Nat.one_ne_zero, Nat.zero_add, List.nil_append, List.cons_append, Option.toList_some, Option.toList_none, forall_const, false_implies, true_implies, false_or, or_false, true_or, or_true, i_le, i_lt, i_eq, i_eq0, i_lt0, i_0le, i_0lt, i_le0, i_in1, i_cl, nI_add, pk_mul, pk_sub, i_div, i_rem, i_sh1, i_bit, i_or, i_and, i_andn, nt_le, nf_le, nt_lt, nf_lt, nt_eq, nf_eq, not_true_eq_false, and_self, and_false, false_and, eq_self, Bool.toNat_true, Bool.toNat_false, i_bool, i_bool1, Bool.false_eq_true, Bool.true_eq_false, reduceCtorEq, i_neg1, i_neg2, i_neg3, i_neg4, i_neg5, i_neg6, i_neg7, i_neg8, i_neg9, i_nega, i_negb, i_negc, i_max2, i_min2])
              refine c_mSet hm2 hn5 ?_
              try simp (disch := omega) only [no0, no1, nz1, nz2, nz3, nz4, nz5, nz7, nz8, Classical.not_not, bz0, bz1, wi_nil, ld_0, ld_s, isIv_I, isLv_L, isRv_R, true_and, and_true, lset_0, lset_1, lset_s, avw_I, avw_L, avw_R, clr_cons, clr_nil, kst_0, kst_1, kstL_0, kstL_1, addk_I, pA_0, pA_s, pD_0, pD_s, wid_nil, wid_cons, rcv_c, putv_I, putv_L, List.length_cons, List.length_nil, List.set_cons_zero, List.set_cons_succ, not_false_eq_true, Nat.reduceMod, Nat.reduceDiv, Nat.reduceEqDiff, Nat.reduceLT, Nat.reduceLeDiff, Nat.reduceAdd, Nat.reduceSub, reduceIte, Nat.lt_irrefl, Nat.zero_ne_one, Nat.one_ne_zero, Nat.zero_add, List.nil_append, List.cons_append, Option.toList_some, Option.toList_none, forall_const, false_implies, true_implies, false_or, or_false, true_or, or_true, i_le, i_lt, i_eq, i_eq0, i_lt0, i_0le, i_0lt, i_le0, i_in1, i_cl, nI_add, pk_mul, pk_sub, i_div, i_rem, i_sh1, i_bit, i_or, i_and, i_andn, nt_le, nf_le, nt_lt, nf_lt, nt_eq, nf_eq, not_true_eq_false, and_self, and_false, false_and, eq_self, Bool.toNat_true, Bool.toNat_false, i_bool, i_bool1, Bool.false_eq_true, Bool.true_eq_false, reduceCtorEq, i_neg1, i_neg2, i_neg3, i_neg4, i_neg5, i_neg6, i_neg7, i_neg8, i_neg9, i_nega, i_negb, i_negc, i_max2, i_min2, hs, wi_nil]
              repeat (
                first
                | refine s_X9_day_0 ?_
                | refine s_X9_day_5 ?_
                | refine s_X9_day_13 ?_
                | refine s_X9_day_39 ?_
                | refine s_X9_day_40 ?_
                | refine s_X9_day_47 ?_
                | refine s_X9_day_57 ?_
                | refine s_X9_day_66 ?_
                | refine s_X9_day_79 ?_
                | refine s_X9_day_88 ?_
                | refine s_X9_day_91 ?_
                | refine s_X9_day_103 ?_
                | refine s_X9_day_107 ?_
                | refine s_X9_day_117 ?_
                | refine s_X9_day_121 ?_
                simp (disch := omega) only [B_X9_day_0, wi_aload_n, wi_iload_n, wi_invokevirtual, cnt_8, B_X9_day_5, wi_if_eq, B_X9_day_13, wi_iand, wi_if_ne, wi_ior, wi_getfield, fldv_8_20, fds_8_20, wi_iconst, wi_iaload, wi_goto, cnt_40, aTy_40, aLn_40, arr_40, B_X9_day_39, B_X9_day_40, wi_istore_n, wi_ireturn, B_X9_day_47, fldv_8_10, fds_8_10, wi_bipush, B_X9_day_57, B_X9_day_66, wi_icmp_gt, wi_invokestatic, B_X9_day_79, wi_icmp_le, B_X9_day_88, B_X9_day_91, fldv_8_22, fds_8_22, wi_icmp_ne, B_X9_day_103, B_X9_day_107, B_X9_day_117, B_X9_day_121, no0, no1, nz1, nz2, nz3, nz4, nz5, nz7, nz8, Classical.not_not, bz0, bz1, wi_nil, ld_0, ld_s, isIv_I, isLv_L, isRv_R, true_and, and_true, lset_0, lset_1, lset_s, avw_I, avw_L, avw_R, clr_cons, clr_nil, kst_0, kst_1, kstL_0, kstL_1, addk_I, pA_0, pA_s, pD_0, pD_s, wid_nil, wid_cons, rcv_c, putv_I, putv_L, List.length_cons, List.length_nil, List.set_cons_zero, List.set_cons_succ, not_false_eq_true, Nat.reduceMod, Nat.reduceDiv, Nat.reduceEqDiff, Nat.reduceLT, Nat.reduceLeDiff, Nat.reduceAdd, Nat.reduceSub, reduceIte, Nat.lt_irrefl, Nat.zero_ne_one, Nat.one_ne_zero, Nat.zero_add, List.nil_append, List.cons_append, Option.toList_some, Option.toList_none, forall_const, false_implies, true_implies, false_or, or_false, true_or, or_true, i_le, i_lt, i_eq, i_eq0, i_lt0, i_0le, i_0lt, i_le0, i_in1, i_cl, nI_add, pk_mul, pk_sub, i_div, i_rem, i_sh1, i_bit, i_or, i_and, i_andn, nt_le, nf_le, nt_lt, nf_lt, nt_eq, nf_eq, not_true_eq_false, and_self, and_false, false_and, eq_self, Bool.toNat_true, Bool.toNat_false, i_bool, i_bool1, Bool.false_eq_true, Bool.true_eq_false, reduceCtorEq, i_neg1, i_neg2, i_neg3, i_neg4, i_neg5, i_neg6, i_neg7, i_neg8, i_neg9, i_nega, i_negb, i_negc, i_max2, i_min2, hs])
              refine c_mSet hm2 hn5 ?_
              try simp (disch := omega) only [no0, no1, nz1, nz2, nz3, nz4, nz5, nz7, nz8, Classical.not_not, bz0, bz1, wi_nil, ld_0, ld_s, isIv_I, isLv_L, isRv_R, true_and, and_true, lset_0, lset_1, lset_s, avw_I, avw_L, avw_R, clr_cons, clr_nil, kst_0, kst_1, kstL_0, kstL_1, addk_I, pA_0, pA_s, pD_0, pD_s, wid_nil, wid_cons, rcv_c, putv_I, putv_L, List.length_cons, List.length_nil, List.set_cons_zero, List.set_cons_succ, not_false_eq_true, Nat.reduceMod, Nat.reduceDiv, Nat.reduceEqDiff, Nat.reduceLT, Nat.reduceLeDiff, Nat.reduceAdd, Nat.reduceSub, reduceIte, Nat.lt_irrefl, Nat.zero_ne_one, Nat.one_ne_zero, Nat.zero_add, List.nil_append, List.cons_append, Option.toList_some, Option.toList_none, forall_const, false_implies, true_implies, false_or, or_false, true_or, or_true, i_le, i_lt, i_eq, i_eq0, i_lt0, i_0le, i_0lt, i_le0, i_in1, i_cl, nI_add, pk_mul, pk_sub, i_div, i_rem, i_sh1, i_bit, i_or, i_and, i_andn, nt_le, nf_le, nt_lt, nf_lt, nt_eq, nf_eq, not_true_eq_false, and_self, and_false, false_and, eq_self, Bool.toNat_true, Bool.toNat_false, i_bool, i_bool1, Bool.false_eq_true, Bool.true_eq_false, reduceCtorEq, i_neg1, i_neg2, i_neg3, i_neg4, i_neg5, i_neg6, i_neg7, i_neg8, i_neg9, i_nega, i_negb, i_negc, i_max2, i_min2, hoo, (m_gone hm2), (m_n hm2), wi_nil]
              repeat (
                first
                | refine s_X9_day_0 ?_
                | refine s_X9_day_5 ?_
                | refine s_X9_day_13 ?_
                | refine s_X9_day_39 ?_
                | refine s_X9_day_40 ?_
                | refine s_X9_day_47 ?_
                | refine s_X9_day_57 ?_
                | refine s_X9_day_66 ?_
                | refine s_X9_day_79 ?_
                | refine s_X9_day_88 ?_
                | refine s_X9_day_91 ?_
                | refine s_X9_day_103 ?_
                | refine s_X9_day_107 ?_
                | refine s_X9_day_117 ?_
                | refine s_X9_day_121 ?_
                simp (disch := omega) only [B_X9_day_0, wi_aload_n, wi_iload_n, wi_invokevirtual, cnt_8, B_X9_day_5, wi_if_eq, B_X9_day_13, wi_iand, wi_if_ne, wi_ior, wi_getfield, fldv_8_20, fds_8_20, wi_iconst, wi_iaload, wi_goto, cnt_40, aTy_40, aLn_40, arr_40, B_X9_day_39, B_X9_day_40, wi_istore_n, wi_ireturn, B_X9_day_47, fldv_8_10, fds_8_10, wi_bipush, B_X9_day_57, B_X9_day_66, wi_icmp_gt, wi_invokestatic, B_X9_day_79, wi_icmp_le, B_X9_day_88, B_X9_day_91, fldv_8_22, fds_8_22, wi_icmp_ne, B_X9_day_103, B_X9_day_107, B_X9_day_117, B_X9_day_121, no0, no1, nz1, nz2, nz3, nz4, nz5, nz7, nz8, Classical.not_not, bz0, bz1, wi_nil, ld_0, ld_s, isIv_I, isLv_L, isRv_R, true_and, and_true, lset_0, lset_1, lset_s, avw_I, avw_L, avw_R, clr_cons, clr_nil, kst_0, kst_1, kstL_0, kstL_1, addk_I, pA_0, pA_s, pD_0, pD_s, wid_nil, wid_cons, rcv_c, putv_I, putv_L, List.length_cons, List.length_nil, List.set_cons_zero, List.set_cons_succ, not_false_eq_true, Nat.reduceMod, Nat.reduceDiv, Nat.reduceEqDiff, Nat.reduceLT, Nat.reduceLeDiff, Nat.reduceAdd, Nat.reduceSub, reduceIte, Nat.lt_irrefl, Nat.zero_ne_one, Nat.one_ne_zero, Nat.zero_add, List.nil_append, List.cons_append, Option.toList_some, Option.toList_none, forall_const, false_implies, true_implies, false_or, or_false, true_or, or_true, i_le, i_lt, i_eq, i_eq0, i_lt0, i_0le, i_0lt, i_le0, i_in1, i_cl, nI_add, pk_mul, pk_sub, i_div, i_rem, i_sh1, i_bit, i_or, i_and, i_andn, nt_le, nf_le, nt_lt, nf_lt, nt_eq, nf_eq, not_true_eq_false, and_self, and_false, false_and, eq_self, Bool.toNat_true, Bool.toNat_false, i_bool, i_bool1, Bool.false_eq_true, Bool.true_eq_false, reduceCtorEq, i_neg1, i_neg2, i_neg3, i_neg4, i_neg5, i_neg6, i_neg7, i_neg8, i_neg9, i_nega, i_negb, i_negc, i_max2, i_min2, hoo, (m_gone hm2), (m_n hm2)])
              refine c_costsOf (Or.inl rfl) hm2 hok (by decide) (by omega) ?_
              try simp (disch := omega) only [no0, no1, nz1, nz2, nz3, nz4, nz5, nz7, nz8, Classical.not_not, bz0, bz1, wi_nil, ld_0, ld_s, isIv_I, isLv_L, isRv_R, true_and, and_true, lset_0, lset_1, lset_s, avw_I, avw_L, avw_R, clr_cons, clr_nil, kst_0, kst_1, kstL_0, kstL_1, addk_I, pA_0, pA_s, pD_0, pD_s, wid_nil, wid_cons, rcv_c, putv_I, putv_L, List.length_cons, List.length_nil, List.set_cons_zero, List.set_cons_succ, not_false_eq_true, Nat.reduceMod, Nat.reduceDiv, Nat.reduceEqDiff, Nat.reduceLT, Nat.reduceLeDiff, Nat.reduceAdd, Nat.reduceSub, reduceIte, Nat.lt_irrefl, Nat.zero_ne_one, Nat.one_ne_zero, Nat.zero_add, List.nil_append, List.cons_append, Option.toList_some, Option.toList_none, forall_const, false_implies, true_implies, false_or, or_false, true_or, or_true, i_le, i_lt, i_eq, i_eq0, i_lt0, i_0le, i_0lt, i_le0, i_in1, i_cl, nI_add, pk_mul, pk_sub, i_div, i_rem, i_sh1, i_bit, i_or, i_and, i_andn, nt_le, nf_le, nt_lt, nf_lt, nt_eq, nf_eq, not_true_eq_false, and_self, and_false, false_and, eq_self, Bool.toNat_true, Bool.toNat_false, i_bool, i_bool1, Bool.false_eq_true, Bool.true_eq_false, reduceCtorEq, i_neg1, i_neg2, i_neg3, i_neg4, i_neg5, i_neg6, i_neg7, i_neg8, i_neg9, i_nega, i_negb, i_negc, i_max2, i_min2, (m_will hm2), wi_nil]
              repeat (
                first
                | refine s_X9_day_0 ?_
                | refine s_X9_day_5 ?_
                | refine s_X9_day_13 ?_
                | refine s_X9_day_39 ?_
                | refine s_X9_day_40 ?_
                | refine s_X9_day_47 ?_
                | refine s_X9_day_57 ?_
                | refine s_X9_day_66 ?_
                | refine s_X9_day_79 ?_
                | refine s_X9_day_88 ?_
                | refine s_X9_day_91 ?_
                | refine s_X9_day_103 ?_
                | refine s_X9_day_107 ?_
                | refine s_X9_day_117 ?_
                | refine s_X9_day_121 ?_
                simp (disch := omega) only [B_X9_day_0, wi_aload_n, wi_iload_n, wi_invokevirtual, cnt_8, B_X9_day_5, wi_if_eq, B_X9_day_13, wi_iand, wi_if_ne, wi_ior, wi_getfield, fldv_8_20, fds_8_20, wi_iconst, wi_iaload, wi_goto, cnt_40, aTy_40, aLn_40, arr_40, B_X9_day_39, B_X9_day_40, wi_istore_n, wi_ireturn, B_X9_day_47, fldv_8_10, fds_8_10, wi_bipush, B_X9_day_57, B_X9_day_66, wi_icmp_gt, wi_invokestatic, B_X9_day_79, wi_icmp_le, B_X9_day_88, B_X9_day_91, fldv_8_22, fds_8_22, wi_icmp_ne, B_X9_day_103, B_X9_day_107, B_X9_day_117, B_X9_day_121, no0, no1, nz1, nz2, nz3, nz4, nz5, nz7, nz8, Classical.not_not, bz0, bz1, wi_nil, ld_0, ld_s, isIv_I, isLv_L, isRv_R, true_and, and_true, lset_0, lset_1, lset_s, avw_I, avw_L, avw_R, clr_cons, clr_nil, kst_0, kst_1, kstL_0, kstL_1, addk_I, pA_0, pA_s, pD_0, pD_s, wid_nil, wid_cons, rcv_c, putv_I, putv_L, List.length_cons, List.length_nil, List.set_cons_zero, List.set_cons_succ, not_false_eq_true, Nat.reduceMod, Nat.reduceDiv, Nat.reduceEqDiff, Nat.reduceLT, Nat.reduceLeDiff, Nat.reduceAdd, Nat.reduceSub, reduceIte, Nat.lt_irrefl, Nat.zero_ne_one, Nat.one_ne_zero, Nat.zero_add, List.nil_append, List.cons_append, Option.toList_some, Option.toList_none, forall_const, false_implies, true_implies, false_or, or_false, true_or, or_true, i_le, i_lt, i_eq, i_eq0, i_lt0, i_0le, i_0lt, i_le0, i_in1, i_cl, nI_add, pk_mul, pk_sub, i_div, i_rem, i_sh1, i_bit, i_or, i_and, i_andn, nt_le, nf_le, nt_lt, nf_lt, nt_eq, nf_eq, not_true_eq_false, and_self, and_false, false_and, eq_self, Bool.toNat_true, Bool.toNat_false, i_bool, i_bool1, Bool.false_eq_true, Bool.true_eq_false, reduceCtorEq, i_neg1, i_neg2, i_neg3, i_neg4, i_neg5, i_neg6, i_neg7, i_neg8, i_neg9, i_nega, i_negb, i_negc, i_max2, i_min2, (m_will hm2)])
              exact pm (rr_fs h fs_26)
            · by_cases c4 : Y 6 3 < bct o
              · try simp (disch := omega) only [no0, no1, nz1, nz2, nz3, nz4, nz5, nz7, nz8, Classical.not_not, bz0, bz1, wi_nil, ld_0, ld_s, isIv_I, isLv_L, isRv_R, true_and, and_true, lset_0, lset_1, lset_s, avw_I, avw_L, avw_R, clr_cons, clr_nil, kst_0, kst_1, kstL_0, kstL_1, addk_I, pA_0, pA_s, pD_0, pD_s, wid_nil, wid_cons, rcv_c, putv_I, putv_L, List.length_cons, List.length_nil, List.set_cons_zero, List.set_cons_succ, not_false_eq_true, Nat.reduceMod, Nat.reduceDiv, Nat.reduceEqDiff, Nat.reduceLT, Nat.reduceLeDiff, Nat.reduceAdd, Nat.reduceSub, reduceIte, Nat.lt_irrefl, Nat.zero_ne_one, Nat.one_ne_zero, Nat.zero_add, List.nil_append, List.cons_append, Option.toList_some, Option.toList_none, forall_const, false_implies, true_implies, false_or, or_false, true_or, or_true, i_le, i_lt, i_eq, i_eq0, i_lt0, i_0le, i_0lt, i_le0, i_in1, i_cl, nI_add, pk_mul, pk_sub, i_div, i_rem, i_sh1, i_bit, i_or, i_and, i_andn, nt_le, nf_le, nt_lt, nf_lt, nt_eq, nf_eq, not_true_eq_false, and_self, and_false, false_and, eq_self, Bool.toNat_true, Bool.toNat_false, i_bool, i_bool1, Bool.false_eq_true, Bool.true_eq_false, reduceCtorEq, i_neg1, i_neg2, i_neg3, i_neg4, i_neg5, i_neg6, i_neg7, i_neg8, i_neg9, i_nega, i_negb, i_negc, i_max2, i_min2, hrs, (y_will hy), gI_sI, gI_sL, gI_sA, gL_sI, gL_sL, gL_sA, gA_sI, gA_sL, gA_sA, sA_sA, wi_nil]
                repeat (
                  first
                  | refine s_X8_day_0 ?_
                  | refine s_X8_day_5 ?_
                  | refine s_X8_day_13 ?_
                  | refine s_X8_day_36 ?_
                  | refine s_X8_day_38 ?_
                  | refine s_X8_day_51 ?_
                  | refine s_X8_day_58 ?_
                  | refine s_X8_day_74 ?_
                  | refine s_X8_day_84 ?_
                  | refine s_X8_day_87 ?_
                  | refine s_X8_day_95 ?_
                  | refine s_X8_day_101 ?_
                  | refine s_X8_day_108 ?_
                  | refine s_X8_day_111 ?_
                  | refine s_X8_day_115 ?_
                  simp (disch := omega) only [B_X8_day_0, wi_aload_n, wi_iload_n, wi_invokevirtual, cnt_7, B_X8_day_5, wi_if_eq, B_X8_day_13, wi_iand, wi_if_ne, wi_ior, wi_getfield, fldv_7_3, fds_7_3, fldv_6_11, fds_6_11, cnt_6, B_X8_day_36, wi_iconst, wi_ireturn, B_X8_day_38, fldv_6_7, fds_6_7, wi_bipush, B_X8_day_51, B_X8_day_58, wi_iaload, fldv_6_9, fds_6_9, wi_icmp_gt, wi_invokestatic, cnt_26, aTy_26, aLn_26, arr_26, B_X8_day_74, fldv_6_10, fds_6_10, wi_icmp_le, B_X8_day_84, B_X8_day_87, fldv_7_6, fds_7_6, cnt_0, B_X8_day_95, B_X8_day_101, B_X8_day_108, B_X8_day_111, B_X8_day_115, no0, no1, nz1, nz2, nz3, nz4, nz5, nz7, nz8, Classical.not_not, bz0, bz1, wi_nil, ld_0, ld_s, isIv_I, isLv_L, isRv_R, true_and, and_true, lset_0, lset_1, lset_s, avw_I, avw_L, avw_R, clr_cons, clr_nil, kst_0, kst_1, kstL_0, kstL_1, addk_I, pA_0, pA_s, pD_0, pD_s, wid_nil, wid_cons, rcv_c, putv_I, putv_L, List.length_cons, List.length_nil, List.set_cons_zero, List.set_cons_succ, not_false_eq_true, Nat.reduceMod, Nat.reduceDiv, Nat.reduceEqDiff, Nat.reduceLT, Nat.reduceLeDiff, Nat.reduceAdd, Nat.reduceSub, reduceIte, Nat.lt_irrefl, Nat.zero_ne_one, Nat.one_ne_zero, Nat.zero_add, List.nil_append, List.cons_append, Option.toList_some, Option.toList_none, forall_const, false_implies, true_implies, false_or, or_false, true_or, or_true, i_le, i_lt, i_eq, i_eq0, i_lt0, i_0le, i_0lt, i_le0, i_in1, i_cl, nI_add, pk_mul, pk_sub, i_div, i_rem, i_sh1, i_bit, i_or, i_and, i_andn, nt_le, nf_le, nt_lt, nf_lt, nt_eq, nf_eq, not_true_eq_false, and_self, and_false, false_and, eq_self, Bool.toNat_true, Bool.toNat_false, i_bool, i_bool1, Bool.false_eq_true, Bool.true_eq_false, reduceCtorEq, i_neg1, i_neg2, i_neg3, i_neg4, i_neg5, i_neg6, i_neg7, i_neg8, i_neg9, i_nega, i_negb, i_negc, i_max2, i_min2, hrs, (y_will hy), gI_sI, gI_sL, gI_sA, gL_sI, gL_sL, gL_sA, gA_sI, gA_sL, gA_sA, sA_sA])
                refine c_bitCount (by omega) ?_
                try simp (disch := omega) only [no0, no1, nz1, nz2, nz3, nz4, nz5, nz7, nz8, Classical.not_not, bz0, bz1, wi_nil, ld_0, ld_s, isIv_I, isLv_L, isRv_R, true_and, and_true, lset_0, lset_1, lset_s, avw_I, avw_L, avw_R, clr_cons, clr_nil, kst_0, kst_1, kstL_0, kstL_1, addk_I, pA_0, pA_s, pD_0, pD_s, wid_nil, wid_cons, rcv_c, putv_I, putv_L, List.length_cons, List.length_nil, List.set_cons_zero, List.set_cons_succ, not_false_eq_true, Nat.reduceMod, Nat.reduceDiv, Nat.reduceEqDiff, Nat.reduceLT, Nat.reduceLeDiff, Nat.reduceAdd, Nat.reduceSub, reduceIte, Nat.lt_irrefl, Nat.zero_ne_one, Nat.one_ne_zero, Nat.zero_add, List.nil_append, List.cons_append, Option.toList_some, Option.toList_none, forall_const, false_implies, true_implies, false_or, or_false, true_or, or_true, i_le, i_lt, i_eq, i_eq0, i_lt0, i_0le, i_0lt, i_le0, i_in1, i_cl, nI_add, pk_mul, pk_sub, i_div, i_rem, i_sh1, i_bit, i_or, i_and, i_andn, nt_le, nf_le, nt_lt, nf_lt, nt_eq, nf_eq, not_true_eq_false, and_self, and_false, false_and, eq_self, Bool.toNat_true, Bool.toNat_false, i_bool, i_bool1, Bool.false_eq_true, Bool.true_eq_false, reduceCtorEq, i_neg1, i_neg2, i_neg3, i_neg4, i_neg5, i_neg6, i_neg7, i_neg8, i_neg9, i_nega, i_negb, i_negc, i_max2, i_min2, (y_offs hy2), wi_nil]
                repeat (
                  first
                  | refine s_X8_day_0 ?_
                  | refine s_X8_day_5 ?_
                  | refine s_X8_day_13 ?_
                  | refine s_X8_day_36 ?_
                  | refine s_X8_day_38 ?_
                  | refine s_X8_day_51 ?_
                  | refine s_X8_day_58 ?_
                  | refine s_X8_day_74 ?_
                  | refine s_X8_day_84 ?_
                  | refine s_X8_day_87 ?_
                  | refine s_X8_day_95 ?_
                  | refine s_X8_day_101 ?_
                  | refine s_X8_day_108 ?_
                  | refine s_X8_day_111 ?_
                  | refine s_X8_day_115 ?_
                  simp (disch := omega) only [B_X8_day_0, wi_aload_n, wi_iload_n, wi_invokevirtual, cnt_7, B_X8_day_5, wi_if_eq, B_X8_day_13, wi_iand, wi_if_ne, wi_ior, wi_getfield, fldv_7_3, fds_7_3, fldv_6_11, fds_6_11, cnt_6, B_X8_day_36, wi_iconst, wi_ireturn, B_X8_day_38, fldv_6_7, fds_6_7, wi_bipush, B_X8_day_51, B_X8_day_58, wi_iaload, fldv_6_9, fds_6_9, wi_icmp_gt, wi_invokestatic, B_X8_day_74, fldv_6_10, fds_6_10, wi_icmp_le, B_X8_day_84, B_X8_day_87, fldv_7_6, fds_7_6, cnt_0, B_X8_day_95, B_X8_day_101, B_X8_day_108, B_X8_day_111, B_X8_day_115, no0, no1, nz1, nz2, nz3, nz4, nz5, nz7, nz8, Classical.not_not, bz0, bz1, wi_nil, ld_0, ld_s, isIv_I, isLv_L, isRv_R, true_and, and_true, lset_0, lset_1, lset_s, avw_I, avw_L, avw_R, clr_cons, clr_nil, kst_0, kst_1, kstL_0, kstL_1, addk_I, pA_0, pA_s, pD_0, pD_s, wid_nil, wid_cons, rcv_c, putv_I, putv_L, List.length_cons, List.length_nil, List.set_cons_zero, List.set_cons_succ, not_false_eq_true, Nat.reduceMod, Nat.reduceDiv, Nat.reduceEqDiff, Nat.reduceLT, Nat.reduceLeDiff, Nat.reduceAdd, Nat.reduceSub, reduceIte, Nat.lt_irrefl, Nat.zero_ne_one, Nat.one_ne_zero, Nat.zero_add, List.nil_append, List.cons_append, Option.toList_some, Option.toList_none, forall_const, false_implies, true_implies, false_or, or_false, true_or, or_true, i_le, i_lt, i_eq, i_eq0, i_lt0, i_0le, i_0lt, i_le0, i_in1, i_cl, nI_add, pk_mul, pk_sub, i_div, i_rem, i_sh1, i_bit, i_or, i_and, i_andn, nt_le, nf_le, nt_lt, nf_lt, nt_eq, nf_eq, not_true_eq_false, and_self, and_false, false_and, eq_self, Bool.toNat_true, Bool.toNat_false, i_bool, i_bool1, Bool.false_eq_true, Bool.true_eq_false, reduceCtorEq, i_neg1, i_neg2, i_neg3, i_neg4, i_neg5, i_neg6, i_neg7, i_neg8, i_neg9, i_nega, i_negb, i_negc, i_max2, i_min2, (y_offs hy2)])
                refine px ?_
                refine x_entry (ls2 := [aR 8 0, aI (nI s), aI (nI o), aU]) (Nat.le_of_ble_eq_true rfl) pl_9 rfl (Nat.le_of_ble_eq_true rfl) ?_
                try simp (disch := omega) only [no0, no1, nz1, nz2, nz3, nz4, nz5, nz7, nz8, Classical.not_not, bz0, bz1, wi_nil, ld_0, ld_s, isIv_I, isLv_L, isRv_R, true_and, and_true, lset_0, lset_1, lset_s, avw_I, avw_L, avw_R, clr_cons, clr_nil, kst_0, kst_1, kstL_0, kstL_1, addk_I, pA_0, pA_s, pD_0, pD_s, wid_nil, wid_cons, rcv_c, putv_I, putv_L, List.length_cons, List.length_nil, List.set_cons_zero, List.set_cons_succ, not_false_eq_true, Nat.reduceMod, Nat.reduceDiv, Nat.reduceEqDiff, Nat.reduceLT, Nat.reduceLeDiff, Nat.reduceAdd, Nat.reduceSub, reduceIte, Nat.lt_irrefl, Nat.zero_ne_one, Nat.one_ne_zero, Nat.zero_add, List.nil_append, List.cons_append, Option.toList_some, Option.toList_none, forall_const, false_implies, true_implies, false_or, or_false, true_or, or_true, i_le, i_lt, i_eq, i_eq0, i_lt0, i_0le, i_0lt, i_le0, i_in1, i_cl, nI_add, pk_mul, pk_sub, i_div, i_rem, i_sh1, i_bit, i_or, i_and, i_andn, nt_le, nf_le, nt_lt, nf_lt, nt_eq, nf_eq, not_true_eq_false, and_self, and_false, false_and, eq_self, Bool.toNat_true, Bool.toNat_false, i_bool, i_bool1, Bool.false_eq_true, Bool.true_eq_false, reduceCtorEq, i_neg1, i_neg2, i_neg3, i_neg4, i_neg5, i_neg6, i_neg7, i_neg8, i_neg9, i_nega, i_negb, i_negc, i_max2, i_min2, wi_nil]
                repeat (
                  first
                  | refine s_X9_day_0 ?_
                  | refine s_X9_day_5 ?_
                  | refine s_X9_day_13 ?_
                  | refine s_X9_day_39 ?_
                  | refine s_X9_day_40 ?_
                  | refine s_X9_day_47 ?_
                  | refine s_X9_day_57 ?_
                  | refine s_X9_day_66 ?_
                  | refine s_X9_day_79 ?_
                  | refine s_X9_day_88 ?_
                  | refine s_X9_day_91 ?_
                  | refine s_X9_day_103 ?_
                  | refine s_X9_day_107 ?_
                  | refine s_X9_day_117 ?_
                  | refine s_X9_day_121 ?_
                  simp (disch := omega) only [B_X9_day_0, wi_aload_n, wi_iload_n, wi_invokevirtual, cnt_8, B_X9_day_5, wi_if_eq, B_X9_day_13, wi_iand, wi_if_ne, wi_ior, wi_getfield, fldv_8_20, fds_8_20, wi_iconst, wi_iaload, wi_goto, cnt_40, aTy_40, aLn_40, arr_40, B_X9_day_39, B_X9_day_40, wi_istore_n, wi_ireturn, B_X9_day_47, fldv_8_10, fds_8_10, wi_bipush, B_X9_day_57, B_X9_day_66, wi_icmp_gt, wi_invokestatic, B_X9_day_79, wi_icmp_le, B_X9_day_88, B_X9_day_91, fldv_8_22, fds_8_22, wi_icmp_ne, B_X9_day_103, B_X9_day_107, B_X9_day_117, B_X9_day_121, no0, no1, nz1, nz2, nz3, nz4, nz5, nz7, nz8, Classical.not_not, bz0, bz1, wi_nil, ld_0, ld_s, isIv_I, isLv_L, isRv_R, true_and, and_true, lset_0, lset_1, lset_s, avw_I, avw_L, avw_R, clr_cons, clr_nil, kst_0, kst_1, kstL_0, kstL_1, addk_I, pA_0, pA_s, pD_0, pD_s, wid_nil, wid_cons, rcv_c, putv_I, putv_L, List.length_cons, List.length_nil, List.set_cons_zero, List.set_cons_succ, not_false_eq_true, Nat.reduceMod, Nat.reduceDiv, Nat.reduceEqDiff, Nat.reduceLT, Nat.reduceLeDiff, Nat.reduceAdd, Nat.reduceSub, reduceIte, Nat.lt_irrefl, Nat.zero_ne_one, Nat.one_ne_zero, Nat.zero_add, List.nil_append, List.cons_append, Option.toList_some, Option.toList_none, forall_const, false_implies, true_implies, false_or, or_false, true_or, or_true, i_le, i_lt, i_eq, i_eq0, i_lt0, i_0le, i_0lt, i_le0, i_in1, i_cl, nI_add, pk_mul, pk_sub, i_div, i_rem, i_sh1, i_bit, i_or, i_and, i_andn, nt_le, nf_le, nt_lt, nf_lt, nt_eq, nf_eq, not_true_eq_false, and_self, and_false, false_and, eq_self, Bool.toNat_true, Bool.toNat_false, i_bool, i_bool1, Bool.false_eq_true, Bool.true_eq_false, reduceCtorEq, i_neg1, i_neg2, i_neg3, i_neg4, i_neg5, i_neg6, i_neg7, i_neg8, i_neg9, i_nega, i_negb, i_negc, i_max2, i_min2])
                refine c_mSet hm2 hn5 ?_
                try simp (disch := omega) only [no0, no1, nz1, nz2, nz3, nz4, nz5, nz7, nz8, Classical.not_not, bz0, bz1, wi_nil, ld_0, ld_s, isIv_I, isLv_L, isRv_R, true_and, and_true, lset_0, lset_1, lset_s, avw_I, avw_L, avw_R, clr_cons, clr_nil, kst_0, kst_1, kstL_0, kstL_1, addk_I, pA_0, pA_s, pD_0, pD_s, wid_nil, wid_cons, rcv_c, putv_I, putv_L, List.length_cons, List.length_nil, List.set_cons_zero, List.set_cons_succ, not_false_eq_true, Nat.reduceMod, Nat.reduceDiv, Nat.reduceEqDiff, Nat.reduceLT, Nat.reduceLeDiff, Nat.reduceAdd, Nat.reduceSub, reduceIte, Nat.lt_irrefl, Nat.zero_ne_one, Nat.one_ne_zero, Nat.zero_add, List.nil_append, List.cons_append, Option.toList_some, Option.toList_none, forall_const, false_implies, true_implies, false_or, or_false, true_or, or_true, i_le, i_lt, i_eq, i_eq0, i_lt0, i_0le, i_0lt, i_le0, i_in1, i_cl, nI_add, pk_mul, pk_sub, i_div, i_rem, i_sh1, i_bit, i_or, i_and, i_andn, nt_le, nf_le, nt_lt, nf_lt, nt_eq, nf_eq, not_true_eq_false, and_self, and_false, false_and, eq_self, Bool.toNat_true, Bool.toNat_false, i_bool, i_bool1, Bool.false_eq_true, Bool.true_eq_false, reduceCtorEq, i_neg1, i_neg2, i_neg3, i_neg4, i_neg5, i_neg6, i_neg7, i_neg8, i_neg9, i_nega, i_negb, i_negc, i_max2, i_min2, hs, wi_nil]
                repeat (
                  first
                  | refine s_X9_day_0 ?_
                  | refine s_X9_day_5 ?_
                  | refine s_X9_day_13 ?_
                  | refine s_X9_day_39 ?_
                  | refine s_X9_day_40 ?_
                  | refine s_X9_day_47 ?_
                  | refine s_X9_day_57 ?_
                  | refine s_X9_day_66 ?_
                  | refine s_X9_day_79 ?_
                  | refine s_X9_day_88 ?_
                  | refine s_X9_day_91 ?_
                  | refine s_X9_day_103 ?_
                  | refine s_X9_day_107 ?_
                  | refine s_X9_day_117 ?_
                  | refine s_X9_day_121 ?_
                  simp (disch := omega) only [B_X9_day_0, wi_aload_n, wi_iload_n, wi_invokevirtual, cnt_8, B_X9_day_5, wi_if_eq, B_X9_day_13, wi_iand, wi_if_ne, wi_ior, wi_getfield, fldv_8_20, fds_8_20, wi_iconst, wi_iaload, wi_goto, cnt_40, aTy_40, aLn_40, arr_40, B_X9_day_39, B_X9_day_40, wi_istore_n, wi_ireturn, B_X9_day_47, fldv_8_10, fds_8_10, wi_bipush, B_X9_day_57, B_X9_day_66, wi_icmp_gt, wi_invokestatic, B_X9_day_79, wi_icmp_le, B_X9_day_88, B_X9_day_91, fldv_8_22, fds_8_22, wi_icmp_ne, B_X9_day_103, B_X9_day_107, B_X9_day_117, B_X9_day_121, no0, no1, nz1, nz2, nz3, nz4, nz5, nz7, nz8, Classical.not_not, bz0, bz1, wi_nil, ld_0, ld_s, isIv_I, isLv_L, isRv_R, true_and, and_true, lset_0, lset_1, lset_s, avw_I, avw_L, avw_R, clr_cons, clr_nil, kst_0, kst_1, kstL_0, kstL_1, addk_I, pA_0, pA_s, pD_0, pD_s, wid_nil, wid_cons, rcv_c, putv_I, putv_L, List.length_cons, List.length_nil, List.set_cons_zero, List.set_cons_succ, not_false_eq_true, Nat.reduceMod, Nat.reduceDiv, Nat.reduceEqDiff, Nat.reduceLT, Nat.reduceLeDiff, Nat.reduceAdd, Nat.reduceSub, reduceIte, Nat.lt_irrefl, Nat.zero_ne_one, Nat.one_ne_zero, Nat.zero_add, List.nil_append, List.cons_append, Option.toList_some, Option.toList_none, forall_const, false_implies, true_implies, false_or, or_false, true_or, or_true, i_le, i_lt, i_eq, i_eq0, i_lt0, i_0le, i_0lt, i_le0, i_in1, i_cl, nI_add, pk_mul, pk_sub, i_div, i_rem, i_sh1, i_bit, i_or, i_and, i_andn, nt_le, nf_le, nt_lt, nf_lt, nt_eq, nf_eq, not_true_eq_false, and_self, and_false, false_and, eq_self, Bool.toNat_true, Bool.toNat_false, i_bool, i_bool1, Bool.false_eq_true, Bool.true_eq_false, reduceCtorEq, i_neg1, i_neg2, i_neg3, i_neg4, i_neg5, i_neg6, i_neg7, i_neg8, i_neg9, i_nega, i_negb, i_negc, i_max2, i_min2, hs])
                refine c_mSet hm2 hn5 ?_
                try simp (disch := omega) only [no0, no1, nz1, nz2, nz3, nz4, nz5, nz7, nz8, Classical.not_not, bz0, bz1, wi_nil, ld_0, ld_s, isIv_I, isLv_L, isRv_R, true_and, and_true, lset_0, lset_1, lset_s, avw_I, avw_L, avw_R, clr_cons, clr_nil, kst_0, kst_1, kstL_0, kstL_1, addk_I, pA_0, pA_s, pD_0, pD_s, wid_nil, wid_cons, rcv_c, putv_I, putv_L, List.length_cons, List.length_nil, List.set_cons_zero, List.set_cons_succ, not_false_eq_true, Nat.reduceMod, Nat.reduceDiv, Nat.reduceEqDiff, Nat.reduceLT, Nat.reduceLeDiff, Nat.reduceAdd, Nat.reduceSub, reduceIte, Nat.lt_irrefl, Nat.zero_ne_one, Nat.one_ne_zero, Nat.zero_add, List.nil_append, List.cons_append, Option.toList_some, Option.toList_none, forall_const, false_implies, true_implies, false_or, or_false, true_or, or_true, i_le, i_lt, i_eq, i_eq0, i_lt0, i_0le, i_0lt, i_le0, i_in1, i_cl, nI_add, pk_mul, pk_sub, i_div, i_rem, i_sh1, i_bit, i_or, i_and, i_andn, nt_le, nf_le, nt_lt, nf_lt, nt_eq, nf_eq, not_true_eq_false, and_self, and_false, false_and, eq_self, Bool.toNat_true, Bool.toNat_false, i_bool, i_bool1, Bool.false_eq_true, Bool.true_eq_false, reduceCtorEq, i_neg1, i_neg2, i_neg3, i_neg4, i_neg5, i_neg6, i_neg7, i_neg8, i_neg9, i_nega, i_negb, i_negc, i_max2, i_min2, hoo, (m_gone hm2), (m_n hm2), wi_nil]
                repeat (
                  first
                  | refine s_X9_day_0 ?_
                  | refine s_X9_day_5 ?_
                  | refine s_X9_day_13 ?_
                  | refine s_X9_day_39 ?_
                  | refine s_X9_day_40 ?_
                  | refine s_X9_day_47 ?_
                  | refine s_X9_day_57 ?_
                  | refine s_X9_day_66 ?_
                  | refine s_X9_day_79 ?_
                  | refine s_X9_day_88 ?_
                  | refine s_X9_day_91 ?_
                  | refine s_X9_day_103 ?_
                  | refine s_X9_day_107 ?_
                  | refine s_X9_day_117 ?_
                  | refine s_X9_day_121 ?_
                  simp (disch := omega) only [B_X9_day_0, wi_aload_n, wi_iload_n, wi_invokevirtual, cnt_8, B_X9_day_5, wi_if_eq, B_X9_day_13, wi_iand, wi_if_ne, wi_ior, wi_getfield, fldv_8_20, fds_8_20, wi_iconst, wi_iaload, wi_goto, cnt_40, aTy_40, aLn_40, arr_40, B_X9_day_39, B_X9_day_40, wi_istore_n, wi_ireturn, B_X9_day_47, fldv_8_10, fds_8_10, wi_bipush, B_X9_day_57, B_X9_day_66, wi_icmp_gt, wi_invokestatic, B_X9_day_79, wi_icmp_le, B_X9_day_88, B_X9_day_91, fldv_8_22, fds_8_22, wi_icmp_ne, B_X9_day_103, B_X9_day_107, B_X9_day_117, B_X9_day_121, no0, no1, nz1, nz2, nz3, nz4, nz5, nz7, nz8, Classical.not_not, bz0, bz1, wi_nil, ld_0, ld_s, isIv_I, isLv_L, isRv_R, true_and, and_true, lset_0, lset_1, lset_s, avw_I, avw_L, avw_R, clr_cons, clr_nil, kst_0, kst_1, kstL_0, kstL_1, addk_I, pA_0, pA_s, pD_0, pD_s, wid_nil, wid_cons, rcv_c, putv_I, putv_L, List.length_cons, List.length_nil, List.set_cons_zero, List.set_cons_succ, not_false_eq_true, Nat.reduceMod, Nat.reduceDiv, Nat.reduceEqDiff, Nat.reduceLT, Nat.reduceLeDiff, Nat.reduceAdd, Nat.reduceSub, reduceIte, Nat.lt_irrefl, Nat.zero_ne_one, Nat.one_ne_zero, Nat.zero_add, List.nil_append, List.cons_append, Option.toList_some, Option.toList_none, forall_const, false_implies, true_implies, false_or, or_false, true_or, or_true, i_le, i_lt, i_eq, i_eq0, i_lt0, i_0le, i_0lt, i_le0, i_in1, i_cl, nI_add, pk_mul, pk_sub, i_div, i_rem, i_sh1, i_bit, i_or, i_and, i_andn, nt_le, nf_le, nt_lt, nf_lt, nt_eq, nf_eq, not_true_eq_false, and_self, and_false, false_and, eq_self, Bool.toNat_true, Bool.toNat_false, i_bool, i_bool1, Bool.false_eq_true, Bool.true_eq_false, reduceCtorEq, i_neg1, i_neg2, i_neg3, i_neg4, i_neg5, i_neg6, i_neg7, i_neg8, i_neg9, i_nega, i_negb, i_negc, i_max2, i_min2, hoo, (m_gone hm2), (m_n hm2)])
                refine c_costsOf (Or.inl rfl) hm2 hok (by decide) (by omega) ?_
                try simp (disch := omega) only [no0, no1, nz1, nz2, nz3, nz4, nz5, nz7, nz8, Classical.not_not, bz0, bz1, wi_nil, ld_0, ld_s, isIv_I, isLv_L, isRv_R, true_and, and_true, lset_0, lset_1, lset_s, avw_I, avw_L, avw_R, clr_cons, clr_nil, kst_0, kst_1, kstL_0, kstL_1, addk_I, pA_0, pA_s, pD_0, pD_s, wid_nil, wid_cons, rcv_c, putv_I, putv_L, List.length_cons, List.length_nil, List.set_cons_zero, List.set_cons_succ, not_false_eq_true, Nat.reduceMod, Nat.reduceDiv, Nat.reduceEqDiff, Nat.reduceLT, Nat.reduceLeDiff, Nat.reduceAdd, Nat.reduceSub, reduceIte, Nat.lt_irrefl, Nat.zero_ne_one, Nat.one_ne_zero, Nat.zero_add, List.nil_append, List.cons_append, Option.toList_some, Option.toList_none, forall_const, false_implies, true_implies, false_or, or_false, true_or, or_true, i_le, i_lt, i_eq, i_eq0, i_lt0, i_0le, i_0lt, i_le0, i_in1, i_cl, nI_add, pk_mul, pk_sub, i_div, i_rem, i_sh1, i_bit, i_or, i_and, i_andn, nt_le, nf_le, nt_lt, nf_lt, nt_eq, nf_eq, not_true_eq_false, and_self, and_false, false_and, eq_self, Bool.toNat_true, Bool.toNat_false, i_bool, i_bool1, Bool.false_eq_true, Bool.true_eq_false, reduceCtorEq, i_neg1, i_neg2, i_neg3, i_neg4, i_neg5, i_neg6, i_neg7, i_neg8, i_neg9, i_nega, i_negb, i_negc, i_max2, i_min2, (m_will hm2), wi_nil]
                repeat (
                  first
                  | refine s_X9_day_0 ?_
                  | refine s_X9_day_5 ?_
                  | refine s_X9_day_13 ?_
                  | refine s_X9_day_39 ?_
                  | refine s_X9_day_40 ?_
                  | refine s_X9_day_47 ?_
                  | refine s_X9_day_57 ?_
                  | refine s_X9_day_66 ?_
                  | refine s_X9_day_79 ?_
                  | refine s_X9_day_88 ?_
                  | refine s_X9_day_91 ?_
                  | refine s_X9_day_103 ?_
                  | refine s_X9_day_107 ?_
                  | refine s_X9_day_117 ?_
                  | refine s_X9_day_121 ?_
                  simp (disch := omega) only [B_X9_day_0, wi_aload_n, wi_iload_n, wi_invokevirtual, cnt_8, B_X9_day_5, wi_if_eq, B_X9_day_13, wi_iand, wi_if_ne, wi_ior, wi_getfield, fldv_8_20, fds_8_20, wi_iconst, wi_iaload, wi_goto, cnt_40, aTy_40, aLn_40, arr_40, B_X9_day_39, B_X9_day_40, wi_istore_n, wi_ireturn, B_X9_day_47, fldv_8_10, fds_8_10, wi_bipush, B_X9_day_57, B_X9_day_66, wi_icmp_gt, wi_invokestatic, B_X9_day_79, wi_icmp_le, B_X9_day_88, B_X9_day_91, fldv_8_22, fds_8_22, wi_icmp_ne, B_X9_day_103, B_X9_day_107, B_X9_day_117, B_X9_day_121, no0, no1, nz1, nz2, nz3, nz4, nz5, nz7, nz8, Classical.not_not, bz0, bz1, wi_nil, ld_0, ld_s, isIv_I, isLv_L, isRv_R, true_and, and_true, lset_0, lset_1, lset_s, avw_I, avw_L, avw_R, clr_cons, clr_nil, kst_0, kst_1, kstL_0, kstL_1, addk_I, pA_0, pA_s, pD_0, pD_s, wid_nil, wid_cons, rcv_c, putv_I, putv_L, List.length_cons, List.length_nil, List.set_cons_zero, List.set_cons_succ, not_false_eq_true, Nat.reduceMod, Nat.reduceDiv, Nat.reduceEqDiff, Nat.reduceLT, Nat.reduceLeDiff, Nat.reduceAdd, Nat.reduceSub, reduceIte, Nat.lt_irrefl, Nat.zero_ne_one, Nat.one_ne_zero, Nat.zero_add, List.nil_append, List.cons_append, Option.toList_some, Option.toList_none, forall_const, false_implies, true_implies, false_or, or_false, true_or, or_true, i_le, i_lt, i_eq, i_eq0, i_lt0, i_0le, i_0lt, i_le0, i_in1, i_cl, nI_add, pk_mul, pk_sub, i_div, i_rem, i_sh1, i_bit, i_or, i_and, i_andn, nt_le, nf_le, nt_lt, nf_lt, nt_eq, nf_eq, not_true_eq_false, and_self, and_false, false_and, eq_self, Bool.toNat_true, Bool.toNat_false, i_bool, i_bool1, Bool.false_eq_true, Bool.true_eq_false, reduceCtorEq, i_neg1, i_neg2, i_neg3, i_neg4, i_neg5, i_neg6, i_neg7, i_neg8, i_neg9, i_nega, i_negb, i_negc, i_max2, i_min2, (m_will hm2)])
                refine c_bits (by omega) ?_
                try simp (disch := omega) only [no0, no1, nz1, nz2, nz3, nz4, nz5, nz7, nz8, Classical.not_not, bz0, bz1, wi_nil, ld_0, ld_s, isIv_I, isLv_L, isRv_R, true_and, and_true, lset_0, lset_1, lset_s, avw_I, avw_L, avw_R, clr_cons, clr_nil, kst_0, kst_1, kstL_0, kstL_1, addk_I, pA_0, pA_s, pD_0, pD_s, wid_nil, wid_cons, rcv_c, putv_I, putv_L, List.length_cons, List.length_nil, List.set_cons_zero, List.set_cons_succ, not_false_eq_true, Nat.reduceMod, Nat.reduceDiv, Nat.reduceEqDiff, Nat.reduceLT, Nat.reduceLeDiff, Nat.reduceAdd, Nat.reduceSub, reduceIte, Nat.lt_irrefl, Nat.zero_ne_one, Nat.one_ne_zero, Nat.zero_add, List.nil_append, List.cons_append, Option.toList_some, Option.toList_none, forall_const, false_implies, true_implies, false_or, or_false, true_or, or_true, i_le, i_lt, i_eq, i_eq0, i_lt0, i_0le, i_0lt, i_le0, i_in1, i_cl, nI_add, pk_mul, pk_sub, i_div, i_rem, i_sh1, i_bit, i_or, i_and, i_andn, nt_le, nf_le, nt_lt, nf_lt, nt_eq, nf_eq, not_true_eq_false, and_self, and_false, false_and, eq_self, Bool.toNat_true, Bool.toNat_false, i_bool, i_bool1, Bool.false_eq_true, Bool.true_eq_false, reduceCtorEq, i_neg1, i_neg2, i_neg3, i_neg4, i_neg5, i_neg6, i_neg7, i_neg8, i_neg9, i_nega, i_negb, i_negc, i_max2, i_min2, (m_offs hm2), wi_nil]
                repeat (
                  first
                  | refine s_X9_day_0 ?_
                  | refine s_X9_day_5 ?_
                  | refine s_X9_day_13 ?_
                  | refine s_X9_day_39 ?_
                  | refine s_X9_day_40 ?_
                  | refine s_X9_day_47 ?_
                  | refine s_X9_day_57 ?_
                  | refine s_X9_day_66 ?_
                  | refine s_X9_day_79 ?_
                  | refine s_X9_day_88 ?_
                  | refine s_X9_day_91 ?_
                  | refine s_X9_day_103 ?_
                  | refine s_X9_day_107 ?_
                  | refine s_X9_day_117 ?_
                  | refine s_X9_day_121 ?_
                  simp (disch := omega) only [B_X9_day_0, wi_aload_n, wi_iload_n, wi_invokevirtual, cnt_8, B_X9_day_5, wi_if_eq, B_X9_day_13, wi_iand, wi_if_ne, wi_ior, wi_getfield, fldv_8_20, fds_8_20, wi_iconst, wi_iaload, wi_goto, cnt_40, aTy_40, aLn_40, arr_40, B_X9_day_39, B_X9_day_40, wi_istore_n, wi_ireturn, B_X9_day_47, fldv_8_10, fds_8_10, wi_bipush, B_X9_day_57, B_X9_day_66, wi_icmp_gt, wi_invokestatic, B_X9_day_79, wi_icmp_le, B_X9_day_88, B_X9_day_91, fldv_8_22, fds_8_22, wi_icmp_ne, B_X9_day_103, B_X9_day_107, B_X9_day_117, B_X9_day_121, no0, no1, nz1, nz2, nz3, nz4, nz5, nz7, nz8, Classical.not_not, bz0, bz1, wi_nil, ld_0, ld_s, isIv_I, isLv_L, isRv_R, true_and, and_true, lset_0, lset_1, lset_s, avw_I, avw_L, avw_R, clr_cons, clr_nil, kst_0, kst_1, kstL_0, kstL_1, addk_I, pA_0, pA_s, pD_0, pD_s, wid_nil, wid_cons, rcv_c, putv_I, putv_L, List.length_cons, List.length_nil, List.set_cons_zero, List.set_cons_succ, not_false_eq_true, Nat.reduceMod, Nat.reduceDiv, Nat.reduceEqDiff, Nat.reduceLT, Nat.reduceLeDiff, Nat.reduceAdd, Nat.reduceSub, reduceIte, Nat.lt_irrefl, Nat.zero_ne_one, Nat.one_ne_zero, Nat.zero_add, List.nil_append, List.cons_append, Option.toList_some, Option.toList_none, forall_const, false_implies, true_implies, false_or, or_false, true_or, or_true, i_le, i_lt, i_eq, i_eq0, i_lt0, i_0le, i_0lt, i_le0, i_in1, i_cl, nI_add, pk_mul, pk_sub, i_div, i_rem, i_sh1, i_bit, i_or, i_and, i_andn, nt_le, nf_le, nt_lt, nf_lt, nt_eq, nf_eq, not_true_eq_false, and_self, and_false, false_and, eq_self, Bool.toNat_true, Bool.toNat_false, i_bool, i_bool1, Bool.false_eq_true, Bool.true_eq_false, reduceCtorEq, i_neg1, i_neg2, i_neg3, i_neg4, i_neg5, i_neg6, i_neg7, i_neg8, i_neg9, i_nega, i_negb, i_negc, i_max2, i_min2, (m_offs hm2)])
                exact pm (rr_fs h fs_26)
              · have hx2 : XAc (sA S 26 1 r) as := hx
                by_cases c5 : as.length = 40
                · try simp (disch := omega) only [no0, no1, nz1, nz2, nz3, nz4, nz5, nz7, nz8, Classical.not_not, bz0, bz1, wi_nil, ld_0, ld_s, isIv_I, isLv_L, isRv_R, true_and, and_true, lset_0, lset_1, lset_s, avw_I, avw_L, avw_R, clr_cons, clr_nil, kst_0, kst_1, kstL_0, kstL_1, addk_I, pA_0, pA_s, pD_0, pD_s, wid_nil, wid_cons, rcv_c, putv_I, putv_L, List.length_cons, List.length_nil, List.set_cons_zero, List.set_cons_succ, not_false_eq_true, Nat.reduceMod, Nat.reduceDiv, Nat.reduceEqDiff, Nat.reduceLT, Nat.reduceLeDiff, Nat.reduceAdd, Nat.reduceSub, reduceIte, Nat.lt_irrefl, Nat.zero_ne_one, Nat.one_ne_zero, Nat.zero_add, List.nil_append, List.cons_append, Option.toList_some, Option.toList_none, forall_const, false_implies, true_implies, false_or, or_false, true_or, or_true, i_le, i_lt, i_eq, i_eq0, i_lt0, i_0le, i_0lt, i_le0, i_in1, i_cl, nI_add, pk_mul, pk_sub, i_div, i_rem, i_sh1, i_bit, i_or, i_and, i_andn, nt_le, nf_le, nt_lt, nf_lt, nt_eq, nf_eq, not_true_eq_false, and_self, and_false, false_and, eq_self, Bool.toNat_true, Bool.toNat_false, i_bool, i_bool1, Bool.false_eq_true, Bool.true_eq_false, reduceCtorEq, i_neg1, i_neg2, i_neg3, i_neg4, i_neg5, i_neg6, i_neg7, i_neg8, i_neg9, i_nega, i_negb, i_negc, i_max2, i_min2, hrs, (y_will hy), gI_sI, gI_sL, gI_sA, gL_sI, gL_sL, gL_sA, gA_sI, gA_sL, gA_sA, sA_sA, wi_nil]
                  repeat (
                    first
                    | refine s_X8_day_0 ?_
                    | refine s_X8_day_5 ?_
                    | refine s_X8_day_13 ?_
                    | refine s_X8_day_36 ?_
                    | refine s_X8_day_38 ?_
                    | refine s_X8_day_51 ?_
                    | refine s_X8_day_58 ?_
                    | refine s_X8_day_74 ?_
                    | refine s_X8_day_84 ?_
                    | refine s_X8_day_87 ?_
                    | refine s_X8_day_95 ?_
                    | refine s_X8_day_101 ?_
                    | refine s_X8_day_108 ?_
                    | refine s_X8_day_111 ?_
                    | refine s_X8_day_115 ?_
                    simp (disch := omega) only [B_X8_day_0, wi_aload_n, wi_iload_n, wi_invokevirtual, cnt_7, B_X8_day_5, wi_if_eq, B_X8_day_13, wi_iand, wi_if_ne, wi_ior, wi_getfield, fldv_7_3, fds_7_3, fldv_6_11, fds_6_11, cnt_6, B_X8_day_36, wi_iconst, wi_ireturn, B_X8_day_38, fldv_6_7, fds_6_7, wi_bipush, B_X8_day_51, B_X8_day_58, wi_iaload, fldv_6_9, fds_6_9, wi_icmp_gt, wi_invokestatic, cnt_26, aTy_26, aLn_26, arr_26, B_X8_day_74, fldv_6_10, fds_6_10, wi_icmp_le, B_X8_day_84, B_X8_day_87, fldv_7_6, fds_7_6, cnt_0, B_X8_day_95, B_X8_day_101, B_X8_day_108, B_X8_day_111, B_X8_day_115, no0, no1, nz1, nz2, nz3, nz4, nz5, nz7, nz8, Classical.not_not, bz0, bz1, wi_nil, ld_0, ld_s, isIv_I, isLv_L, isRv_R, true_and, and_true, lset_0, lset_1, lset_s, avw_I, avw_L, avw_R, clr_cons, clr_nil, kst_0, kst_1, kstL_0, kstL_1, addk_I, pA_0, pA_s, pD_0, pD_s, wid_nil, wid_cons, rcv_c, putv_I, putv_L, List.length_cons, List.length_nil, List.set_cons_zero, List.set_cons_succ, not_false_eq_true, Nat.reduceMod, Nat.reduceDiv, Nat.reduceEqDiff, Nat.reduceLT, Nat.reduceLeDiff, Nat.reduceAdd, Nat.reduceSub, reduceIte, Nat.lt_irrefl, Nat.zero_ne_one, Nat.one_ne_zero, Nat.zero_add, List.nil_append, List.cons_append, Option.toList_some, Option.toList_none, forall_const, false_implies, true_implies, false_or, or_false, true_or, or_true, i_le, i_lt, i_eq, i_eq0, i_lt0, i_0le, i_0lt, i_le0, i_in1, i_cl, nI_add, pk_mul, pk_sub, i_div, i_rem, i_sh1, i_bit, i_or, i_and, i_andn, nt_le, nf_le, nt_lt, nf_lt, nt_eq, nf_eq, not_true_eq_false, and_self, and_false, false_and, eq_self, Bool.toNat_true, Bool.toNat_false, i_bool, i_bool1, Bool.false_eq_true, Bool.true_eq_false, reduceCtorEq, i_neg1, i_neg2, i_neg3, i_neg4, i_neg5, i_neg6, i_neg7, i_neg8, i_neg9, i_nega, i_negb, i_negc, i_max2, i_min2, hrs, (y_will hy), gI_sI, gI_sL, gI_sA, gL_sI, gL_sL, gL_sA, gA_sI, gA_sL, gA_sA, sA_sA])
                  refine c_bitCount (by omega) ?_
                  try simp (disch := omega) only [no0, no1, nz1, nz2, nz3, nz4, nz5, nz7, nz8, Classical.not_not, bz0, bz1, wi_nil, ld_0, ld_s, isIv_I, isLv_L, isRv_R, true_and, and_true, lset_0, lset_1, lset_s, avw_I, avw_L, avw_R, clr_cons, clr_nil, kst_0, kst_1, kstL_0, kstL_1, addk_I, pA_0, pA_s, pD_0, pD_s, wid_nil, wid_cons, rcv_c, putv_I, putv_L, List.length_cons, List.length_nil, List.set_cons_zero, List.set_cons_succ, not_false_eq_true, Nat.reduceMod, Nat.reduceDiv, Nat.reduceEqDiff, Nat.reduceLT, Nat.reduceLeDiff, Nat.reduceAdd, Nat.reduceSub, reduceIte, Nat.lt_irrefl, Nat.zero_ne_one, Nat.one_ne_zero, Nat.zero_add, List.nil_append, List.cons_append, Option.toList_some, Option.toList_none, forall_const, false_implies, true_implies, false_or, or_false, true_or, or_true, i_le, i_lt, i_eq, i_eq0, i_lt0, i_0le, i_0lt, i_le0, i_in1, i_cl, nI_add, pk_mul, pk_sub, i_div, i_rem, i_sh1, i_bit, i_or, i_and, i_andn, nt_le, nf_le, nt_lt, nf_lt, nt_eq, nf_eq, not_true_eq_false, and_self, and_false, false_and, eq_self, Bool.toNat_true, Bool.toNat_false, i_bool, i_bool1, Bool.false_eq_true, Bool.true_eq_false, reduceCtorEq, i_neg1, i_neg2, i_neg3, i_neg4, i_neg5, i_neg6, i_neg7, i_neg8, i_neg9, i_nega, i_negb, i_negc, i_max2, i_min2, (y_offs hy2), wi_nil]
                  repeat (
                    first
                    | refine s_X8_day_0 ?_
                    | refine s_X8_day_5 ?_
                    | refine s_X8_day_13 ?_
                    | refine s_X8_day_36 ?_
                    | refine s_X8_day_38 ?_
                    | refine s_X8_day_51 ?_
                    | refine s_X8_day_58 ?_
                    | refine s_X8_day_74 ?_
                    | refine s_X8_day_84 ?_
                    | refine s_X8_day_87 ?_
                    | refine s_X8_day_95 ?_
                    | refine s_X8_day_101 ?_
                    | refine s_X8_day_108 ?_
                    | refine s_X8_day_111 ?_
                    | refine s_X8_day_115 ?_
                    simp (disch := omega) only [B_X8_day_0, wi_aload_n, wi_iload_n, wi_invokevirtual, cnt_7, B_X8_day_5, wi_if_eq, B_X8_day_13, wi_iand, wi_if_ne, wi_ior, wi_getfield, fldv_7_3, fds_7_3, fldv_6_11, fds_6_11, cnt_6, B_X8_day_36, wi_iconst, wi_ireturn, B_X8_day_38, fldv_6_7, fds_6_7, wi_bipush, B_X8_day_51, B_X8_day_58, wi_iaload, fldv_6_9, fds_6_9, wi_icmp_gt, wi_invokestatic, B_X8_day_74, fldv_6_10, fds_6_10, wi_icmp_le, B_X8_day_84, B_X8_day_87, fldv_7_6, fds_7_6, cnt_0, B_X8_day_95, B_X8_day_101, B_X8_day_108, B_X8_day_111, B_X8_day_115, no0, no1, nz1, nz2, nz3, nz4, nz5, nz7, nz8, Classical.not_not, bz0, bz1, wi_nil, ld_0, ld_s, isIv_I, isLv_L, isRv_R, true_and, and_true, lset_0, lset_1, lset_s, avw_I, avw_L, avw_R, clr_cons, clr_nil, kst_0, kst_1, kstL_0, kstL_1, addk_I, pA_0, pA_s, pD_0, pD_s, wid_nil, wid_cons, rcv_c, putv_I, putv_L, List.length_cons, List.length_nil, List.set_cons_zero, List.set_cons_succ, not_false_eq_true, Nat.reduceMod, Nat.reduceDiv, Nat.reduceEqDiff, Nat.reduceLT, Nat.reduceLeDiff, Nat.reduceAdd, Nat.reduceSub, reduceIte, Nat.lt_irrefl, Nat.zero_ne_one, Nat.one_ne_zero, Nat.zero_add, List.nil_append, List.cons_append, Option.toList_some, Option.toList_none, forall_const, false_implies, true_implies, false_or, or_false, true_or, or_true, i_le, i_lt, i_eq, i_eq0, i_lt0, i_0le, i_0lt, i_le0, i_in1, i_cl, nI_add, pk_mul, pk_sub, i_div, i_rem, i_sh1, i_bit, i_or, i_and, i_andn, nt_le, nf_le, nt_lt, nf_lt, nt_eq, nf_eq, not_true_eq_false, and_self, and_false, false_and, eq_self, Bool.toNat_true, Bool.toNat_false, i_bool, i_bool1, Bool.false_eq_true, Bool.true_eq_false, reduceCtorEq, i_neg1, i_neg2, i_neg3, i_neg4, i_neg5, i_neg6, i_neg7, i_neg8, i_neg9, i_nega, i_negb, i_negc, i_max2, i_min2, (y_offs hy2)])
                  refine c_haveRoom hx2.1 hl (by decide) ?_
                  rw [if_neg (by omega)]
                  try simp (disch := omega) only [no0, no1, nz1, nz2, nz3, nz4, nz5, nz7, nz8, Classical.not_not, bz0, bz1, wi_nil, ld_0, ld_s, isIv_I, isLv_L, isRv_R, true_and, and_true, lset_0, lset_1, lset_s, avw_I, avw_L, avw_R, clr_cons, clr_nil, kst_0, kst_1, kstL_0, kstL_1, addk_I, pA_0, pA_s, pD_0, pD_s, wid_nil, wid_cons, rcv_c, putv_I, putv_L, List.length_cons, List.length_nil, List.set_cons_zero, List.set_cons_succ, not_false_eq_true, Nat.reduceMod, Nat.reduceDiv, Nat.reduceEqDiff, Nat.reduceLT, Nat.reduceLeDiff, Nat.reduceAdd, Nat.reduceSub, reduceIte, Nat.lt_irrefl, Nat.zero_ne_one, Nat.one_ne_zero, Nat.zero_add, List.nil_append, List.cons_append, Option.toList_some, Option.toList_none, forall_const, false_implies, true_implies, false_or, or_false, true_or, or_true, i_le, i_lt, i_eq, i_eq0, i_lt0, i_0le, i_0lt, i_le0, i_in1, i_cl, nI_add, pk_mul, pk_sub, i_div, i_rem, i_sh1, i_bit, i_or, i_and, i_andn, nt_le, nf_le, nt_lt, nf_lt, nt_eq, nf_eq, not_true_eq_false, and_self, and_false, false_and, eq_self, Bool.toNat_true, Bool.toNat_false, i_bool, i_bool1, Bool.false_eq_true, Bool.true_eq_false, reduceCtorEq, i_neg1, i_neg2, i_neg3, i_neg4, i_neg5, i_neg6, i_neg7, i_neg8, i_neg9, i_nega, i_negb, i_negc, i_max2, i_min2, wi_nil]
                  repeat (
                    first
                    | refine s_X8_day_0 ?_
                    | refine s_X8_day_5 ?_
                    | refine s_X8_day_13 ?_
                    | refine s_X8_day_36 ?_
                    | refine s_X8_day_38 ?_
                    | refine s_X8_day_51 ?_
                    | refine s_X8_day_58 ?_
                    | refine s_X8_day_74 ?_
                    | refine s_X8_day_84 ?_
                    | refine s_X8_day_87 ?_
                    | refine s_X8_day_95 ?_
                    | refine s_X8_day_101 ?_
                    | refine s_X8_day_108 ?_
                    | refine s_X8_day_111 ?_
                    | refine s_X8_day_115 ?_
                    simp (disch := omega) only [B_X8_day_0, wi_aload_n, wi_iload_n, wi_invokevirtual, cnt_7, B_X8_day_5, wi_if_eq, B_X8_day_13, wi_iand, wi_if_ne, wi_ior, wi_getfield, fldv_7_3, fds_7_3, fldv_6_11, fds_6_11, cnt_6, B_X8_day_36, wi_iconst, wi_ireturn, B_X8_day_38, fldv_6_7, fds_6_7, wi_bipush, B_X8_day_51, B_X8_day_58, wi_iaload, fldv_6_9, fds_6_9, wi_icmp_gt, wi_invokestatic, B_X8_day_74, fldv_6_10, fds_6_10, wi_icmp_le, B_X8_day_84, B_X8_day_87, fldv_7_6, fds_7_6, cnt_0, B_X8_day_95, B_X8_day_101, B_X8_day_108, B_X8_day_111, B_X8_day_115, no0, no1, nz1, nz2, nz3, nz4, nz5, nz7, nz8, Classical.not_not, bz0, bz1, wi_nil, ld_0, ld_s, isIv_I, isLv_L, isRv_R, true_and, and_true, lset_0, lset_1, lset_s, avw_I, avw_L, avw_R, clr_cons, clr_nil, kst_0, kst_1, kstL_0, kstL_1, addk_I, pA_0, pA_s, pD_0, pD_s, wid_nil, wid_cons, rcv_c, putv_I, putv_L, List.length_cons, List.length_nil, List.set_cons_zero, List.set_cons_succ, not_false_eq_true, Nat.reduceMod, Nat.reduceDiv, Nat.reduceEqDiff, Nat.reduceLT, Nat.reduceLeDiff, Nat.reduceAdd, Nat.reduceSub, reduceIte, Nat.lt_irrefl, Nat.zero_ne_one, Nat.one_ne_zero, Nat.zero_add, List.nil_append, List.cons_append, Option.toList_some, Option.toList_none, forall_const, false_implies, true_implies, false_or, or_false, true_or, or_true, i_le, i_lt, i_eq, i_eq0, i_lt0, i_0le, i_0lt, i_le0, i_in1, i_cl, nI_add, pk_mul, pk_sub, i_div, i_rem, i_sh1, i_bit, i_or, i_and, i_andn, nt_le, nf_le, nt_lt, nf_lt, nt_eq, nf_eq, not_true_eq_false, and_self, and_false, false_and, eq_self, Bool.toNat_true, Bool.toNat_false, i_bool, i_bool1, Bool.false_eq_true, Bool.true_eq_false, reduceCtorEq, i_neg1, i_neg2, i_neg3, i_neg4, i_neg5, i_neg6, i_neg7, i_neg8, i_neg9, i_nega, i_negb, i_negc, i_max2, i_min2])
                  refine px ?_
                  refine x_entry (ls2 := [aR 8 0, aI (nI s), aI (nI o), aU]) (Nat.le_of_ble_eq_true rfl) pl_9 rfl (Nat.le_of_ble_eq_true rfl) ?_
                  try simp (disch := omega) only [no0, no1, nz1, nz2, nz3, nz4, nz5, nz7, nz8, Classical.not_not, bz0, bz1, wi_nil, ld_0, ld_s, isIv_I, isLv_L, isRv_R, true_and, and_true, lset_0, lset_1, lset_s, avw_I, avw_L, avw_R, clr_cons, clr_nil, kst_0, kst_1, kstL_0, kstL_1, addk_I, pA_0, pA_s, pD_0, pD_s, wid_nil, wid_cons, rcv_c, putv_I, putv_L, List.length_cons, List.length_nil, List.set_cons_zero, List.set_cons_succ, not_false_eq_true, Nat.reduceMod, Nat.reduceDiv, Nat.reduceEqDiff, Nat.reduceLT, Nat.reduceLeDiff, Nat.reduceAdd, Nat.reduceSub, reduceIte, Nat.lt_irrefl, Nat.zero_ne_one, Nat.one_ne_zero, Nat.zero_add, List.nil_append, List.cons_append, Option.toList_some, Option.toList_none, forall_const, false_implies, true_implies, false_or, or_false, true_or, or_true, i_le, i_lt, i_eq, i_eq0, i_lt0, i_0le, i_0lt, i_le0, i_in1, i_cl, nI_add, pk_mul, pk_sub, i_div, i_rem, i_sh1, i_bit, i_or, i_and, i_andn, nt_le, nf_le, nt_lt, nf_lt, nt_eq, nf_eq, not_true_eq_false, and_self, and_false, false_and, eq_self, Bool.toNat_true, Bool.toNat_false, i_bool, i_bool1, Bool.false_eq_true, Bool.true_eq_false, reduceCtorEq, i_neg1, i_neg2, i_neg3, i_neg4, i_neg5, i_neg6, i_neg7, i_neg8, i_neg9, i_nega, i_negb, i_negc, i_max2, i_min2, wi_nil]
                  repeat (
                    first
                    | refine s_X9_day_0 ?_
                    | refine s_X9_day_5 ?_
                    | refine s_X9_day_13 ?_
                    | refine s_X9_day_39 ?_
                    | refine s_X9_day_40 ?_
                    | refine s_X9_day_47 ?_
                    | refine s_X9_day_57 ?_
                    | refine s_X9_day_66 ?_
                    | refine s_X9_day_79 ?_
                    | refine s_X9_day_88 ?_
                    | refine s_X9_day_91 ?_
                    | refine s_X9_day_103 ?_
                    | refine s_X9_day_107 ?_
                    | refine s_X9_day_117 ?_
                    | refine s_X9_day_121 ?_
                    simp (disch := omega) only [B_X9_day_0, wi_aload_n, wi_iload_n, wi_invokevirtual, cnt_8, B_X9_day_5, wi_if_eq, B_X9_day_13, wi_iand, wi_if_ne, wi_ior, wi_getfield, fldv_8_20, fds_8_20, wi_iconst, wi_iaload, wi_goto, cnt_40, aTy_40, aLn_40, arr_40, B_X9_day_39, B_X9_day_40, wi_istore_n, wi_ireturn, B_X9_day_47, fldv_8_10, fds_8_10, wi_bipush, B_X9_day_57, B_X9_day_66, wi_icmp_gt, wi_invokestatic, B_X9_day_79, wi_icmp_le, B_X9_day_88, B_X9_day_91, fldv_8_22, fds_8_22, wi_icmp_ne, B_X9_day_103, B_X9_day_107, B_X9_day_117, B_X9_day_121, no0, no1, nz1, nz2, nz3, nz4, nz5, nz7, nz8, Classical.not_not, bz0, bz1, wi_nil, ld_0, ld_s, isIv_I, isLv_L, isRv_R, true_and, and_true, lset_0, lset_1, lset_s, avw_I, avw_L, avw_R, clr_cons, clr_nil, kst_0, kst_1, kstL_0, kstL_1, addk_I, pA_0, pA_s, pD_0, pD_s, wid_nil, wid_cons, rcv_c, putv_I, putv_L, List.length_cons, List.length_nil, List.set_cons_zero, List.set_cons_succ, not_false_eq_true, Nat.reduceMod, Nat.reduceDiv, Nat.reduceEqDiff, Nat.reduceLT, Nat.reduceLeDiff, Nat.reduceAdd, Nat.reduceSub, reduceIte, Nat.lt_irrefl, Nat.zero_ne_one, Nat.one_ne_zero, Nat.zero_add, List.nil_append, List.cons_append, Option.toList_some, Option.toList_none, forall_const, false_implies, true_implies, false_or, or_false, true_or, or_true, i_le, i_lt, i_eq, i_eq0, i_lt0, i_0le, i_0lt, i_le0, i_in1, i_cl, nI_add, pk_mul, pk_sub, i_div, i_rem, i_sh1, i_bit, i_or, i_and, i_andn, nt_le, nf_le, nt_lt, nf_lt, nt_eq, nf_eq, not_true_eq_false, and_self, and_false, false_and, eq_self, Bool.toNat_true, Bool.toNat_false, i_bool, i_bool1, Bool.false_eq_true, Bool.true_eq_false, reduceCtorEq, i_neg1, i_neg2, i_neg3, i_neg4, i_neg5, i_neg6, i_neg7, i_neg8, i_neg9, i_nega, i_negb, i_negc, i_max2, i_min2])
                  refine c_mSet hm2 hn5 ?_
                  try simp (disch := omega) only [no0, no1, nz1, nz2, nz3, nz4, nz5, nz7, nz8, Classical.not_not, bz0, bz1, wi_nil, ld_0, ld_s, isIv_I, isLv_L, isRv_R, true_and, and_true, lset_0, lset_1, lset_s, avw_I, avw_L, avw_R, clr_cons, clr_nil, kst_0, kst_1, kstL_0, kstL_1, addk_I, pA_0, pA_s, pD_0, pD_s, wid_nil, wid_cons, rcv_c, putv_I, putv_L, List.length_cons, List.length_nil, List.set_cons_zero, List.set_cons_succ, not_false_eq_true, Nat.reduceMod, Nat.reduceDiv, Nat.reduceEqDiff, Nat.reduceLT, Nat.reduceLeDiff, Nat.reduceAdd, Nat.reduceSub, reduceIte, Nat.lt_irrefl, Nat.zero_ne_one, Nat.one_ne_zero, Nat.zero_add, List.nil_append, List.cons_append, Option.toList_some, Option.toList_none, forall_const, false_implies, true_implies, false_or, or_false, true_or, or_true, i_le, i_lt, i_eq, i_eq0, i_lt0, i_0le, i_0lt, i_le0, i_in1, i_cl, nI_add, pk_mul, pk_sub, i_div, i_rem, i_sh1, i_bit, i_or, i_and, i_andn, nt_le, nf_le, nt_lt, nf_lt, nt_eq, nf_eq, not_true_eq_false, and_self, and_false, false_and, eq_self, Bool.toNat_true, Bool.toNat_false, i_bool, i_bool1, Bool.false_eq_true, Bool.true_eq_false, reduceCtorEq, i_neg1, i_neg2, i_neg3, i_neg4, i_neg5, i_neg6, i_neg7, i_neg8, i_neg9, i_nega, i_negb, i_negc, i_max2, i_min2, hs, wi_nil]
                  repeat (
                    first
                    | refine s_X9_day_0 ?_
                    | refine s_X9_day_5 ?_
                    | refine s_X9_day_13 ?_
                    | refine s_X9_day_39 ?_
                    | refine s_X9_day_40 ?_
                    | refine s_X9_day_47 ?_
                    | refine s_X9_day_57 ?_
                    | refine s_X9_day_66 ?_
                    | refine s_X9_day_79 ?_
                    | refine s_X9_day_88 ?_
                    | refine s_X9_day_91 ?_
                    | refine s_X9_day_103 ?_
                    | refine s_X9_day_107 ?_
                    | refine s_X9_day_117 ?_
                    | refine s_X9_day_121 ?_
                    simp (disch := omega) only [B_X9_day_0, wi_aload_n, wi_iload_n, wi_invokevirtual, cnt_8, B_X9_day_5, wi_if_eq, B_X9_day_13, wi_iand, wi_if_ne, wi_ior, wi_getfield, fldv_8_20, fds_8_20, wi_iconst, wi_iaload, wi_goto, cnt_40, aTy_40, aLn_40, arr_40, B_X9_day_39, B_X9_day_40, wi_istore_n, wi_ireturn, B_X9_day_47, fldv_8_10, fds_8_10, wi_bipush, B_X9_day_57, B_X9_day_66, wi_icmp_gt, wi_invokestatic, B_X9_day_79, wi_icmp_le, B_X9_day_88, B_X9_day_91, fldv_8_22, fds_8_22, wi_icmp_ne, B_X9_day_103, B_X9_day_107, B_X9_day_117, B_X9_day_121, no0, no1, nz1, nz2, nz3, nz4, nz5, nz7, nz8, Classical.not_not, bz0, bz1, wi_nil, ld_0, ld_s, isIv_I, isLv_L, isRv_R, true_and, and_true, lset_0, lset_1, lset_s, avw_I, avw_L, avw_R, clr_cons, clr_nil, kst_0, kst_1, kstL_0, kstL_1, addk_I, pA_0, pA_s, pD_0, pD_s, wid_nil, wid_cons, rcv_c, putv_I, putv_L, List.length_cons, List.length_nil, List.set_cons_zero, List.set_cons_succ, not_false_eq_true, Nat.reduceMod, Nat.reduceDiv, Nat.reduceEqDiff, Nat.reduceLT, Nat.reduceLeDiff, Nat.reduceAdd, Nat.reduceSub, reduceIte, Nat.lt_irrefl, Nat.zero_ne_one, Nat.one_ne_zero, Nat.zero_add, List.nil_append, List.cons_append, Option.toList_some, Option.toList_none, forall_const, false_implies, true_implies, false_or, or_false, true_or, or_true, i_le, i_lt, i_eq, i_eq0, i_lt0, i_0le, i_0lt, i_le0, i_in1, i_cl, nI_add, pk_mul, pk_sub, i_div, i_rem, i_sh1, i_bit, i_or, i_and, i_andn, nt_le, nf_le, nt_lt, nf_lt, nt_eq, nf_eq, not_true_eq_false, and_self, and_false, false_and, eq_self, Bool.toNat_true, Bool.toNat_false, i_bool, i_bool1, Bool.false_eq_true, Bool.true_eq_false, reduceCtorEq, i_neg1, i_neg2, i_neg3, i_neg4, i_neg5, i_neg6, i_neg7, i_neg8, i_neg9, i_nega, i_negb, i_negc, i_max2, i_min2, hs])
                  refine c_mSet hm2 hn5 ?_
                  try simp (disch := omega) only [no0, no1, nz1, nz2, nz3, nz4, nz5, nz7, nz8, Classical.not_not, bz0, bz1, wi_nil, ld_0, ld_s, isIv_I, isLv_L, isRv_R, true_and, and_true, lset_0, lset_1, lset_s, avw_I, avw_L, avw_R, clr_cons, clr_nil, kst_0, kst_1, kstL_0, kstL_1, addk_I, pA_0, pA_s, pD_0, pD_s, wid_nil, wid_cons, rcv_c, putv_I, putv_L, List.length_cons, List.length_nil, List.set_cons_zero, List.set_cons_succ, not_false_eq_true, Nat.reduceMod, Nat.reduceDiv, Nat.reduceEqDiff, Nat.reduceLT, Nat.reduceLeDiff, Nat.reduceAdd, Nat.reduceSub, reduceIte, Nat.lt_irrefl, Nat.zero_ne_one, Nat.one_ne_zero, Nat.zero_add, List.nil_append, List.cons_append, Option.toList_some, Option.toList_none, forall_const, false_implies, true_implies, false_or, or_false, true_or, or_true, i_le, i_lt, i_eq, i_eq0, i_lt0, i_0le, i_0lt, i_le0, i_in1, i_cl, nI_add, pk_mul, pk_sub, i_div, i_rem, i_sh1, i_bit, i_or, i_and, i_andn, nt_le, nf_le, nt_lt, nf_lt, nt_eq, nf_eq, not_true_eq_false, and_self, and_false, false_and, eq_self, Bool.toNat_true, Bool.toNat_false, i_bool, i_bool1, Bool.false_eq_true, Bool.true_eq_false, reduceCtorEq, i_neg1, i_neg2, i_neg3, i_neg4, i_neg5, i_neg6, i_neg7, i_neg8, i_neg9, i_nega, i_negb, i_negc, i_max2, i_min2, hoo, (m_gone hm2), (m_n hm2), wi_nil]
                  repeat (
                    first
                    | refine s_X9_day_0 ?_
                    | refine s_X9_day_5 ?_
                    | refine s_X9_day_13 ?_
                    | refine s_X9_day_39 ?_
                    | refine s_X9_day_40 ?_
                    | refine s_X9_day_47 ?_
                    | refine s_X9_day_57 ?_
                    | refine s_X9_day_66 ?_
                    | refine s_X9_day_79 ?_
                    | refine s_X9_day_88 ?_
                    | refine s_X9_day_91 ?_
                    | refine s_X9_day_103 ?_
                    | refine s_X9_day_107 ?_
                    | refine s_X9_day_117 ?_
                    | refine s_X9_day_121 ?_
                    simp (disch := omega) only [B_X9_day_0, wi_aload_n, wi_iload_n, wi_invokevirtual, cnt_8, B_X9_day_5, wi_if_eq, B_X9_day_13, wi_iand, wi_if_ne, wi_ior, wi_getfield, fldv_8_20, fds_8_20, wi_iconst, wi_iaload, wi_goto, cnt_40, aTy_40, aLn_40, arr_40, B_X9_day_39, B_X9_day_40, wi_istore_n, wi_ireturn, B_X9_day_47, fldv_8_10, fds_8_10, wi_bipush, B_X9_day_57, B_X9_day_66, wi_icmp_gt, wi_invokestatic, B_X9_day_79, wi_icmp_le, B_X9_day_88, B_X9_day_91, fldv_8_22, fds_8_22, wi_icmp_ne, B_X9_day_103, B_X9_day_107, B_X9_day_117, B_X9_day_121, no0, no1, nz1, nz2, nz3, nz4, nz5, nz7, nz8, Classical.not_not, bz0, bz1, wi_nil, ld_0, ld_s, isIv_I, isLv_L, isRv_R, true_and, and_true, lset_0, lset_1, lset_s, avw_I, avw_L, avw_R, clr_cons, clr_nil, kst_0, kst_1, kstL_0, kstL_1, addk_I, pA_0, pA_s, pD_0, pD_s, wid_nil, wid_cons, rcv_c, putv_I, putv_L, List.length_cons, List.length_nil, List.set_cons_zero, List.set_cons_succ, not_false_eq_true, Nat.reduceMod, Nat.reduceDiv, Nat.reduceEqDiff, Nat.reduceLT, Nat.reduceLeDiff, Nat.reduceAdd, Nat.reduceSub, reduceIte, Nat.lt_irrefl, Nat.zero_ne_one, Nat.one_ne_zero, Nat.zero_add, List.nil_append, List.cons_append, Option.toList_some, Option.toList_none, forall_const, false_implies, true_implies, false_or, or_false, true_or, or_true, i_le, i_lt, i_eq, i_eq0, i_lt0, i_0le, i_0lt, i_le0, i_in1, i_cl, nI_add, pk_mul, pk_sub, i_div, i_rem, i_sh1, i_bit, i_or, i_and, i_andn, nt_le, nf_le, nt_lt, nf_lt, nt_eq, nf_eq, not_true_eq_false, and_self, and_false, false_and, eq_self, Bool.toNat_true, Bool.toNat_false, i_bool, i_bool1, Bool.false_eq_true, Bool.true_eq_false, reduceCtorEq, i_neg1, i_neg2, i_neg3, i_neg4, i_neg5, i_neg6, i_neg7, i_neg8, i_neg9, i_nega, i_negb, i_negc, i_max2, i_min2, hoo, (m_gone hm2), (m_n hm2)])
                  refine c_costsOf (Or.inl rfl) hm2 hok (by decide) (by omega) ?_
                  try simp (disch := omega) only [no0, no1, nz1, nz2, nz3, nz4, nz5, nz7, nz8, Classical.not_not, bz0, bz1, wi_nil, ld_0, ld_s, isIv_I, isLv_L, isRv_R, true_and, and_true, lset_0, lset_1, lset_s, avw_I, avw_L, avw_R, clr_cons, clr_nil, kst_0, kst_1, kstL_0, kstL_1, addk_I, pA_0, pA_s, pD_0, pD_s, wid_nil, wid_cons, rcv_c, putv_I, putv_L, List.length_cons, List.length_nil, List.set_cons_zero, List.set_cons_succ, not_false_eq_true, Nat.reduceMod, Nat.reduceDiv, Nat.reduceEqDiff, Nat.reduceLT, Nat.reduceLeDiff, Nat.reduceAdd, Nat.reduceSub, reduceIte, Nat.lt_irrefl, Nat.zero_ne_one, Nat.one_ne_zero, Nat.zero_add, List.nil_append, List.cons_append, Option.toList_some, Option.toList_none, forall_const, false_implies, true_implies, false_or, or_false, true_or, or_true, i_le, i_lt, i_eq, i_eq0, i_lt0, i_0le, i_0lt, i_le0, i_in1, i_cl, nI_add, pk_mul, pk_sub, i_div, i_rem, i_sh1, i_bit, i_or, i_and, i_andn, nt_le, nf_le, nt_lt, nf_lt, nt_eq, nf_eq, not_true_eq_false, and_self, and_false, false_and, eq_self, Bool.toNat_true, Bool.toNat_false, i_bool, i_bool1, Bool.false_eq_true, Bool.true_eq_false, reduceCtorEq, i_neg1, i_neg2, i_neg3, i_neg4, i_neg5, i_neg6, i_neg7, i_neg8, i_neg9, i_nega, i_negb, i_negc, i_max2, i_min2, (m_will hm2), wi_nil]
                  repeat (
                    first
                    | refine s_X9_day_0 ?_
                    | refine s_X9_day_5 ?_
                    | refine s_X9_day_13 ?_
                    | refine s_X9_day_39 ?_
                    | refine s_X9_day_40 ?_
                    | refine s_X9_day_47 ?_
                    | refine s_X9_day_57 ?_
                    | refine s_X9_day_66 ?_
                    | refine s_X9_day_79 ?_
                    | refine s_X9_day_88 ?_
                    | refine s_X9_day_91 ?_
                    | refine s_X9_day_103 ?_
                    | refine s_X9_day_107 ?_
                    | refine s_X9_day_117 ?_
                    | refine s_X9_day_121 ?_
                    simp (disch := omega) only [B_X9_day_0, wi_aload_n, wi_iload_n, wi_invokevirtual, cnt_8, B_X9_day_5, wi_if_eq, B_X9_day_13, wi_iand, wi_if_ne, wi_ior, wi_getfield, fldv_8_20, fds_8_20, wi_iconst, wi_iaload, wi_goto, cnt_40, aTy_40, aLn_40, arr_40, B_X9_day_39, B_X9_day_40, wi_istore_n, wi_ireturn, B_X9_day_47, fldv_8_10, fds_8_10, wi_bipush, B_X9_day_57, B_X9_day_66, wi_icmp_gt, wi_invokestatic, B_X9_day_79, wi_icmp_le, B_X9_day_88, B_X9_day_91, fldv_8_22, fds_8_22, wi_icmp_ne, B_X9_day_103, B_X9_day_107, B_X9_day_117, B_X9_day_121, no0, no1, nz1, nz2, nz3, nz4, nz5, nz7, nz8, Classical.not_not, bz0, bz1, wi_nil, ld_0, ld_s, isIv_I, isLv_L, isRv_R, true_and, and_true, lset_0, lset_1, lset_s, avw_I, avw_L, avw_R, clr_cons, clr_nil, kst_0, kst_1, kstL_0, kstL_1, addk_I, pA_0, pA_s, pD_0, pD_s, wid_nil, wid_cons, rcv_c, putv_I, putv_L, List.length_cons, List.length_nil, List.set_cons_zero, List.set_cons_succ, not_false_eq_true, Nat.reduceMod, Nat.reduceDiv, Nat.reduceEqDiff, Nat.reduceLT, Nat.reduceLeDiff, Nat.reduceAdd, Nat.reduceSub, reduceIte, Nat.lt_irrefl, Nat.zero_ne_one, Nat.one_ne_zero, Nat.zero_add, List.nil_append, List.cons_append, Option.toList_some, Option.toList_none, forall_const, false_implies, true_implies, false_or, or_false, true_or, or_true, i_le, i_lt, i_eq, i_eq0, i_lt0, i_0le, i_0lt, i_le0, i_in1, i_cl, nI_add, pk_mul, pk_sub, i_div, i_rem, i_sh1, i_bit, i_or, i_and, i_andn, nt_le, nf_le, nt_lt, nf_lt, nt_eq, nf_eq, not_true_eq_false, and_self, and_false, false_and, eq_self, Bool.toNat_true, Bool.toNat_false, i_bool, i_bool1, Bool.false_eq_true, Bool.true_eq_false, reduceCtorEq, i_neg1, i_neg2, i_neg3, i_neg4, i_neg5, i_neg6, i_neg7, i_neg8, i_neg9, i_nega, i_negb, i_negc, i_max2, i_min2, (m_will hm2)])
                  refine c_bits (by omega) ?_
                  try simp (disch := omega) only [no0, no1, nz1, nz2, nz3, nz4, nz5, nz7, nz8, Classical.not_not, bz0, bz1, wi_nil, ld_0, ld_s, isIv_I, isLv_L, isRv_R, true_and, and_true, lset_0, lset_1, lset_s, avw_I, avw_L, avw_R, clr_cons, clr_nil, kst_0, kst_1, kstL_0, kstL_1, addk_I, pA_0, pA_s, pD_0, pD_s, wid_nil, wid_cons, rcv_c, putv_I, putv_L, List.length_cons, List.length_nil, List.set_cons_zero, List.set_cons_succ, not_false_eq_true, Nat.reduceMod, Nat.reduceDiv, Nat.reduceEqDiff, Nat.reduceLT, Nat.reduceLeDiff, Nat.reduceAdd, Nat.reduceSub, reduceIte, Nat.lt_irrefl, Nat.zero_ne_one, Nat.one_ne_zero, Nat.zero_add, List.nil_append, List.cons_append, Option.toList_some, Option.toList_none, forall_const, false_implies, true_implies, false_or, or_false, true_or, or_true, i_le, i_lt, i_eq, i_eq0, i_lt0, i_0le, i_0lt, i_le0, i_in1, i_cl, nI_add, pk_mul, pk_sub, i_div, i_rem, i_sh1, i_bit, i_or, i_and, i_andn, nt_le, nf_le, nt_lt, nf_lt, nt_eq, nf_eq, not_true_eq_false, and_self, and_false, false_and, eq_self, Bool.toNat_true, Bool.toNat_false, i_bool, i_bool1, Bool.false_eq_true, Bool.true_eq_false, reduceCtorEq, i_neg1, i_neg2, i_neg3, i_neg4, i_neg5, i_neg6, i_neg7, i_neg8, i_neg9, i_nega, i_negb, i_negc, i_max2, i_min2, (m_offs hm2), (show gI (sA S 26 1 r) 8 0 22 = nI as.length from hlg.1), wi_nil]
                  repeat (
                    first
                    | refine s_X9_day_0 ?_
                    | refine s_X9_day_5 ?_
                    | refine s_X9_day_13 ?_
                    | refine s_X9_day_39 ?_
                    | refine s_X9_day_40 ?_
                    | refine s_X9_day_47 ?_
                    | refine s_X9_day_57 ?_
                    | refine s_X9_day_66 ?_
                    | refine s_X9_day_79 ?_
                    | refine s_X9_day_88 ?_
                    | refine s_X9_day_91 ?_
                    | refine s_X9_day_103 ?_
                    | refine s_X9_day_107 ?_
                    | refine s_X9_day_117 ?_
                    | refine s_X9_day_121 ?_
                    simp (disch := omega) only [B_X9_day_0, wi_aload_n, wi_iload_n, wi_invokevirtual, cnt_8, B_X9_day_5, wi_if_eq, B_X9_day_13, wi_iand, wi_if_ne, wi_ior, wi_getfield, fldv_8_20, fds_8_20, wi_iconst, wi_iaload, wi_goto, cnt_40, aTy_40, aLn_40, arr_40, B_X9_day_39, B_X9_day_40, wi_istore_n, wi_ireturn, B_X9_day_47, fldv_8_10, fds_8_10, wi_bipush, B_X9_day_57, B_X9_day_66, wi_icmp_gt, wi_invokestatic, B_X9_day_79, wi_icmp_le, B_X9_day_88, B_X9_day_91, fldv_8_22, fds_8_22, wi_icmp_ne, B_X9_day_103, B_X9_day_107, B_X9_day_117, B_X9_day_121, no0, no1, nz1, nz2, nz3, nz4, nz5, nz7, nz8, Classical.not_not, bz0, bz1, wi_nil, ld_0, ld_s, isIv_I, isLv_L, isRv_R, true_and, and_true, lset_0, lset_1, lset_s, avw_I, avw_L, avw_R, clr_cons, clr_nil, kst_0, kst_1, kstL_0, kstL_1, addk_I, pA_0, pA_s, pD_0, pD_s, wid_nil, wid_cons, rcv_c, putv_I, putv_L, List.length_cons, List.length_nil, List.set_cons_zero, List.set_cons_succ, not_false_eq_true, Nat.reduceMod, Nat.reduceDiv, Nat.reduceEqDiff, Nat.reduceLT, Nat.reduceLeDiff, Nat.reduceAdd, Nat.reduceSub, reduceIte, Nat.lt_irrefl, Nat.zero_ne_one, Nat.one_ne_zero, Nat.zero_add, List.nil_append, List.cons_append, Option.toList_some, Option.toList_none, forall_const, false_implies, true_implies, false_or, or_false, true_or, or_true, i_le, i_lt, i_eq, i_eq0, i_lt0, i_0le, i_0lt, i_le0, i_in1, i_cl, nI_add, pk_mul, pk_sub, i_div, i_rem, i_sh1, i_bit, i_or, i_and, i_andn, nt_le, nf_le, nt_lt, nf_lt, nt_eq, nf_eq, not_true_eq_false, and_self, and_false, false_and, eq_self, Bool.toNat_true, Bool.toNat_false, i_bool, i_bool1, Bool.false_eq_true, Bool.true_eq_false, reduceCtorEq, i_neg1, i_neg2, i_neg3, i_neg4, i_neg5, i_neg6, i_neg7, i_neg8, i_neg9, i_nega, i_negb, i_negc, i_max2, i_min2, (m_offs hm2), (show gI (sA S 26 1 r) 8 0 22 = nI as.length from hlg.1)])
                  exact pm (rr_fs h fs_26)
                · obtain ⟨k1, k2⟩ := ok_day (Y := Y) (s := s) (o := o) hn5 hs2 ho2 c1 c2 (by omega)
                  try simp (disch := omega) only [no0, no1, nz1, nz2, nz3, nz4, nz5, nz7, nz8, Classical.not_not, bz0, bz1, wi_nil, ld_0, ld_s, isIv_I, isLv_L, isRv_R, true_and, and_true, lset_0, lset_1, lset_s, avw_I, avw_L, avw_R, clr_cons, clr_nil, kst_0, kst_1, kstL_0, kstL_1, addk_I, pA_0, pA_s, pD_0, pD_s, wid_nil, wid_cons, rcv_c, putv_I, putv_L, List.length_cons, List.length_nil, List.set_cons_zero, List.set_cons_succ, not_false_eq_true, Nat.reduceMod, Nat.reduceDiv, Nat.reduceEqDiff, Nat.reduceLT, Nat.reduceLeDiff, Nat.reduceAdd, Nat.reduceSub, reduceIte, Nat.lt_irrefl, Nat.zero_ne_one, Nat.one_ne_zero, Nat.zero_add, List.nil_append, List.cons_append, Option.toList_some, Option.toList_none, forall_const, false_implies, true_implies, false_or, or_false, true_or, or_true, i_le, i_lt, i_eq, i_eq0, i_lt0, i_0le, i_0lt, i_le0, i_in1, i_cl, nI_add, pk_mul, pk_sub, i_div, i_rem, i_sh1, i_bit, i_or, i_and, i_andn, nt_le, nf_le, nt_lt, nf_lt, nt_eq, nf_eq, not_true_eq_false, and_self, and_false, false_and, eq_self, Bool.toNat_true, Bool.toNat_false, i_bool, i_bool1, Bool.false_eq_true, Bool.true_eq_false, reduceCtorEq, i_neg1, i_neg2, i_neg3, i_neg4, i_neg5, i_neg6, i_neg7, i_neg8, i_neg9, i_nega, i_negb, i_negc, i_max2, i_min2, hrs, (y_will hy), gI_sI, gI_sL, gI_sA, gL_sI, gL_sL, gL_sA, gA_sI, gA_sL, gA_sA, sA_sA, wi_nil]
                  repeat (
                    first
                    | refine s_X8_day_0 ?_
                    | refine s_X8_day_5 ?_
                    | refine s_X8_day_13 ?_
                    | refine s_X8_day_36 ?_
                    | refine s_X8_day_38 ?_
                    | refine s_X8_day_51 ?_
                    | refine s_X8_day_58 ?_
                    | refine s_X8_day_74 ?_
                    | refine s_X8_day_84 ?_
                    | refine s_X8_day_87 ?_
                    | refine s_X8_day_95 ?_
                    | refine s_X8_day_101 ?_
                    | refine s_X8_day_108 ?_
                    | refine s_X8_day_111 ?_
                    | refine s_X8_day_115 ?_
                    simp (disch := omega) only [B_X8_day_0, wi_aload_n, wi_iload_n, wi_invokevirtual, cnt_7, B_X8_day_5, wi_if_eq, B_X8_day_13, wi_iand, wi_if_ne, wi_ior, wi_getfield, fldv_7_3, fds_7_3, fldv_6_11, fds_6_11, cnt_6, B_X8_day_36, wi_iconst, wi_ireturn, B_X8_day_38, fldv_6_7, fds_6_7, wi_bipush, B_X8_day_51, B_X8_day_58, wi_iaload, fldv_6_9, fds_6_9, wi_icmp_gt, wi_invokestatic, cnt_26, aTy_26, aLn_26, arr_26, B_X8_day_74, fldv_6_10, fds_6_10, wi_icmp_le, B_X8_day_84, B_X8_day_87, fldv_7_6, fds_7_6, cnt_0, B_X8_day_95, B_X8_day_101, B_X8_day_108, B_X8_day_111, B_X8_day_115, no0, no1, nz1, nz2, nz3, nz4, nz5, nz7, nz8, Classical.not_not, bz0, bz1, wi_nil, ld_0, ld_s, isIv_I, isLv_L, isRv_R, true_and, and_true, lset_0, lset_1, lset_s, avw_I, avw_L, avw_R, clr_cons, clr_nil, kst_0, kst_1, kstL_0, kstL_1, addk_I, pA_0, pA_s, pD_0, pD_s, wid_nil, wid_cons, rcv_c, putv_I, putv_L, List.length_cons, List.length_nil, List.set_cons_zero, List.set_cons_succ, not_false_eq_true, Nat.reduceMod, Nat.reduceDiv, Nat.reduceEqDiff, Nat.reduceLT, Nat.reduceLeDiff, Nat.reduceAdd, Nat.reduceSub, reduceIte, Nat.lt_irrefl, Nat.zero_ne_one, Nat.one_ne_zero, Nat.zero_add, List.nil_append, List.cons_append, Option.toList_some, Option.toList_none, forall_const, false_implies, true_implies, false_or, or_false, true_or, or_true, i_le, i_lt, i_eq, i_eq0, i_lt0, i_0le, i_0lt, i_le0, i_in1, i_cl, nI_add, pk_mul, pk_sub, i_div, i_rem, i_sh1, i_bit, i_or, i_and, i_andn, nt_le, nf_le, nt_lt, nf_lt, nt_eq, nf_eq, not_true_eq_false, and_self, and_false, false_and, eq_self, Bool.toNat_true, Bool.toNat_false, i_bool, i_bool1, Bool.false_eq_true, Bool.true_eq_false, reduceCtorEq, i_neg1, i_neg2, i_neg3, i_neg4, i_neg5, i_neg6, i_neg7, i_neg8, i_neg9, i_nega, i_negb, i_negc, i_max2, i_min2, hrs, (y_will hy), gI_sI, gI_sL, gI_sA, gL_sI, gL_sL, gL_sA, gA_sI, gA_sL, gA_sA, sA_sA])
                  refine c_bitCount (by omega) ?_
                  try simp (disch := omega) only [no0, no1, nz1, nz2, nz3, nz4, nz5, nz7, nz8, Classical.not_not, bz0, bz1, wi_nil, ld_0, ld_s, isIv_I, isLv_L, isRv_R, true_and, and_true, lset_0, lset_1, lset_s, avw_I, avw_L, avw_R, clr_cons, clr_nil, kst_0, kst_1, kstL_0, kstL_1, addk_I, pA_0, pA_s, pD_0, pD_s, wid_nil, wid_cons, rcv_c, putv_I, putv_L, List.length_cons, List.length_nil, List.set_cons_zero, List.set_cons_succ, not_false_eq_true, Nat.reduceMod, Nat.reduceDiv, Nat.reduceEqDiff, Nat.reduceLT, Nat.reduceLeDiff, Nat.reduceAdd, Nat.reduceSub, reduceIte, Nat.lt_irrefl, Nat.zero_ne_one, Nat.one_ne_zero, Nat.zero_add, List.nil_append, List.cons_append, Option.toList_some, Option.toList_none, forall_const, false_implies, true_implies, false_or, or_false, true_or, or_true, i_le, i_lt, i_eq, i_eq0, i_lt0, i_0le, i_0lt, i_le0, i_in1, i_cl, nI_add, pk_mul, pk_sub, i_div, i_rem, i_sh1, i_bit, i_or, i_and, i_andn, nt_le, nf_le, nt_lt, nf_lt, nt_eq, nf_eq, not_true_eq_false, and_self, and_false, false_and, eq_self, Bool.toNat_true, Bool.toNat_false, i_bool, i_bool1, Bool.false_eq_true, Bool.true_eq_false, reduceCtorEq, i_neg1, i_neg2, i_neg3, i_neg4, i_neg5, i_neg6, i_neg7, i_neg8, i_neg9, i_nega, i_negb, i_negc, i_max2, i_min2, (y_offs hy2), wi_nil]
                  repeat (
                    first
                    | refine s_X8_day_0 ?_
                    | refine s_X8_day_5 ?_
                    | refine s_X8_day_13 ?_
                    | refine s_X8_day_36 ?_
                    | refine s_X8_day_38 ?_
                    | refine s_X8_day_51 ?_
                    | refine s_X8_day_58 ?_
                    | refine s_X8_day_74 ?_
                    | refine s_X8_day_84 ?_
                    | refine s_X8_day_87 ?_
                    | refine s_X8_day_95 ?_
                    | refine s_X8_day_101 ?_
                    | refine s_X8_day_108 ?_
                    | refine s_X8_day_111 ?_
                    | refine s_X8_day_115 ?_
                    simp (disch := omega) only [B_X8_day_0, wi_aload_n, wi_iload_n, wi_invokevirtual, cnt_7, B_X8_day_5, wi_if_eq, B_X8_day_13, wi_iand, wi_if_ne, wi_ior, wi_getfield, fldv_7_3, fds_7_3, fldv_6_11, fds_6_11, cnt_6, B_X8_day_36, wi_iconst, wi_ireturn, B_X8_day_38, fldv_6_7, fds_6_7, wi_bipush, B_X8_day_51, B_X8_day_58, wi_iaload, fldv_6_9, fds_6_9, wi_icmp_gt, wi_invokestatic, B_X8_day_74, fldv_6_10, fds_6_10, wi_icmp_le, B_X8_day_84, B_X8_day_87, fldv_7_6, fds_7_6, cnt_0, B_X8_day_95, B_X8_day_101, B_X8_day_108, B_X8_day_111, B_X8_day_115, no0, no1, nz1, nz2, nz3, nz4, nz5, nz7, nz8, Classical.not_not, bz0, bz1, wi_nil, ld_0, ld_s, isIv_I, isLv_L, isRv_R, true_and, and_true, lset_0, lset_1, lset_s, avw_I, avw_L, avw_R, clr_cons, clr_nil, kst_0, kst_1, kstL_0, kstL_1, addk_I, pA_0, pA_s, pD_0, pD_s, wid_nil, wid_cons, rcv_c, putv_I, putv_L, List.length_cons, List.length_nil, List.set_cons_zero, List.set_cons_succ, not_false_eq_true, Nat.reduceMod, Nat.reduceDiv, Nat.reduceEqDiff, Nat.reduceLT, Nat.reduceLeDiff, Nat.reduceAdd, Nat.reduceSub, reduceIte, Nat.lt_irrefl, Nat.zero_ne_one, Nat.one_ne_zero, Nat.zero_add, List.nil_append, List.cons_append, Option.toList_some, Option.toList_none, forall_const, false_implies, true_implies, false_or, or_false, true_or, or_true, i_le, i_lt, i_eq, i_eq0, i_lt0, i_0le, i_0lt, i_le0, i_in1, i_cl, nI_add, pk_mul, pk_sub, i_div, i_rem, i_sh1, i_bit, i_or, i_and, i_andn, nt_le, nf_le, nt_lt, nf_lt, nt_eq, nf_eq, not_true_eq_false, and_self, and_false, false_and, eq_self, Bool.toNat_true, Bool.toNat_false, i_bool, i_bool1, Bool.false_eq_true, Bool.true_eq_false, reduceCtorEq, i_neg1, i_neg2, i_neg3, i_neg4, i_neg5, i_neg6, i_neg7, i_neg8, i_neg9, i_nega, i_negb, i_negc, i_max2, i_min2, (y_offs hy2)])
                  refine c_haveRoom hx2.1 hl (by decide) ?_
                  rw [if_pos (by omega)]
                  try simp (disch := omega) only [no0, no1, nz1, nz2, nz3, nz4, nz5, nz7, nz8, Classical.not_not, bz0, bz1, wi_nil, ld_0, ld_s, isIv_I, isLv_L, isRv_R, true_and, and_true, lset_0, lset_1, lset_s, avw_I, avw_L, avw_R, clr_cons, clr_nil, kst_0, kst_1, kstL_0, kstL_1, addk_I, pA_0, pA_s, pD_0, pD_s, wid_nil, wid_cons, rcv_c, putv_I, putv_L, List.length_cons, List.length_nil, List.set_cons_zero, List.set_cons_succ, not_false_eq_true, Nat.reduceMod, Nat.reduceDiv, Nat.reduceEqDiff, Nat.reduceLT, Nat.reduceLeDiff, Nat.reduceAdd, Nat.reduceSub, reduceIte, Nat.lt_irrefl, Nat.zero_ne_one, Nat.one_ne_zero, Nat.zero_add, List.nil_append, List.cons_append, Option.toList_some, Option.toList_none, forall_const, false_implies, true_implies, false_or, or_false, true_or, or_true, i_le, i_lt, i_eq, i_eq0, i_lt0, i_0le, i_0lt, i_le0, i_in1, i_cl, nI_add, pk_mul, pk_sub, i_div, i_rem, i_sh1, i_bit, i_or, i_and, i_andn, nt_le, nf_le, nt_lt, nf_lt, nt_eq, nf_eq, not_true_eq_false, and_self, and_false, false_and, eq_self, Bool.toNat_true, Bool.toNat_false, i_bool, i_bool1, Bool.false_eq_true, Bool.true_eq_false, reduceCtorEq, i_neg1, i_neg2, i_neg3, i_neg4, i_neg5, i_neg6, i_neg7, i_neg8, i_neg9, i_nega, i_negb, i_negc, i_max2, i_min2, wi_nil]
                  repeat (
                    first
                    | refine s_X8_day_0 ?_
                    | refine s_X8_day_5 ?_
                    | refine s_X8_day_13 ?_
                    | refine s_X8_day_36 ?_
                    | refine s_X8_day_38 ?_
                    | refine s_X8_day_51 ?_
                    | refine s_X8_day_58 ?_
                    | refine s_X8_day_74 ?_
                    | refine s_X8_day_84 ?_
                    | refine s_X8_day_87 ?_
                    | refine s_X8_day_95 ?_
                    | refine s_X8_day_101 ?_
                    | refine s_X8_day_108 ?_
                    | refine s_X8_day_111 ?_
                    | refine s_X8_day_115 ?_
                    simp (disch := omega) only [B_X8_day_0, wi_aload_n, wi_iload_n, wi_invokevirtual, cnt_7, B_X8_day_5, wi_if_eq, B_X8_day_13, wi_iand, wi_if_ne, wi_ior, wi_getfield, fldv_7_3, fds_7_3, fldv_6_11, fds_6_11, cnt_6, B_X8_day_36, wi_iconst, wi_ireturn, B_X8_day_38, fldv_6_7, fds_6_7, wi_bipush, B_X8_day_51, B_X8_day_58, wi_iaload, fldv_6_9, fds_6_9, wi_icmp_gt, wi_invokestatic, B_X8_day_74, fldv_6_10, fds_6_10, wi_icmp_le, B_X8_day_84, B_X8_day_87, fldv_7_6, fds_7_6, cnt_0, B_X8_day_95, B_X8_day_101, B_X8_day_108, B_X8_day_111, B_X8_day_115, no0, no1, nz1, nz2, nz3, nz4, nz5, nz7, nz8, Classical.not_not, bz0, bz1, wi_nil, ld_0, ld_s, isIv_I, isLv_L, isRv_R, true_and, and_true, lset_0, lset_1, lset_s, avw_I, avw_L, avw_R, clr_cons, clr_nil, kst_0, kst_1, kstL_0, kstL_1, addk_I, pA_0, pA_s, pD_0, pD_s, wid_nil, wid_cons, rcv_c, putv_I, putv_L, List.length_cons, List.length_nil, List.set_cons_zero, List.set_cons_succ, not_false_eq_true, Nat.reduceMod, Nat.reduceDiv, Nat.reduceEqDiff, Nat.reduceLT, Nat.reduceLeDiff, Nat.reduceAdd, Nat.reduceSub, reduceIte, Nat.lt_irrefl, Nat.zero_ne_one, Nat.one_ne_zero, Nat.zero_add, List.nil_append, List.cons_append, Option.toList_some, Option.toList_none, forall_const, false_implies, true_implies, false_or, or_false, true_or, or_true, i_le, i_lt, i_eq, i_eq0, i_lt0, i_0le, i_0lt, i_le0, i_in1, i_cl, nI_add, pk_mul, pk_sub, i_div, i_rem, i_sh1, i_bit, i_or, i_and, i_andn, nt_le, nf_le, nt_lt, nf_lt, nt_eq, nf_eq, not_true_eq_false, and_self, and_false, false_and, eq_self, Bool.toNat_true, Bool.toNat_false, i_bool, i_bool1, Bool.false_eq_true, Bool.true_eq_false, reduceCtorEq, i_neg1, i_neg2, i_neg3, i_neg4, i_neg5, i_neg6, i_neg7, i_neg8, i_neg9, i_nega, i_negb, i_negc, i_max2, i_min2])
                  refine c_pack (by decide) (by omega) (by omega) ?_
                  try simp (disch := omega) only [no0, no1, nz1, nz2, nz3, nz4, nz5, nz7, nz8, Classical.not_not, bz0, bz1, wi_nil, ld_0, ld_s, isIv_I, isLv_L, isRv_R, true_and, and_true, lset_0, lset_1, lset_s, avw_I, avw_L, avw_R, clr_cons, clr_nil, kst_0, kst_1, kstL_0, kstL_1, addk_I, pA_0, pA_s, pD_0, pD_s, wid_nil, wid_cons, rcv_c, putv_I, putv_L, List.length_cons, List.length_nil, List.set_cons_zero, List.set_cons_succ, not_false_eq_true, Nat.reduceMod, Nat.reduceDiv, Nat.reduceEqDiff, Nat.reduceLT, Nat.reduceLeDiff, Nat.reduceAdd, Nat.reduceSub, reduceIte, Nat.lt_irrefl, Nat.zero_ne_one, Nat.one_ne_zero, Nat.zero_add, List.nil_append, List.cons_append, Option.toList_some, Option.toList_none, forall_const, false_implies, true_implies, false_or, or_false, true_or, or_true, i_le, i_lt, i_eq, i_eq0, i_lt0, i_0le, i_0lt, i_le0, i_in1, i_cl, nI_add, pk_mul, pk_sub, i_div, i_rem, i_sh1, i_bit, i_or, i_and, i_andn, nt_le, nf_le, nt_lt, nf_lt, nt_eq, nf_eq, not_true_eq_false, and_self, and_false, false_and, eq_self, Bool.toNat_true, Bool.toNat_false, i_bool, i_bool1, Bool.false_eq_true, Bool.true_eq_false, reduceCtorEq, i_neg1, i_neg2, i_neg3, i_neg4, i_neg5, i_neg6, i_neg7, i_neg8, i_neg9, i_nega, i_negb, i_negc, i_max2, i_min2, wi_nil]
                  repeat (
                    first
                    | refine s_X8_day_0 ?_
                    | refine s_X8_day_5 ?_
                    | refine s_X8_day_13 ?_
                    | refine s_X8_day_36 ?_
                    | refine s_X8_day_38 ?_
                    | refine s_X8_day_51 ?_
                    | refine s_X8_day_58 ?_
                    | refine s_X8_day_74 ?_
                    | refine s_X8_day_84 ?_
                    | refine s_X8_day_87 ?_
                    | refine s_X8_day_95 ?_
                    | refine s_X8_day_101 ?_
                    | refine s_X8_day_108 ?_
                    | refine s_X8_day_111 ?_
                    | refine s_X8_day_115 ?_
                    simp (disch := omega) only [B_X8_day_0, wi_aload_n, wi_iload_n, wi_invokevirtual, cnt_7, B_X8_day_5, wi_if_eq, B_X8_day_13, wi_iand, wi_if_ne, wi_ior, wi_getfield, fldv_7_3, fds_7_3, fldv_6_11, fds_6_11, cnt_6, B_X8_day_36, wi_iconst, wi_ireturn, B_X8_day_38, fldv_6_7, fds_6_7, wi_bipush, B_X8_day_51, B_X8_day_58, wi_iaload, fldv_6_9, fds_6_9, wi_icmp_gt, wi_invokestatic, B_X8_day_74, fldv_6_10, fds_6_10, wi_icmp_le, B_X8_day_84, B_X8_day_87, fldv_7_6, fds_7_6, cnt_0, B_X8_day_95, B_X8_day_101, B_X8_day_108, B_X8_day_111, B_X8_day_115, no0, no1, nz1, nz2, nz3, nz4, nz5, nz7, nz8, Classical.not_not, bz0, bz1, wi_nil, ld_0, ld_s, isIv_I, isLv_L, isRv_R, true_and, and_true, lset_0, lset_1, lset_s, avw_I, avw_L, avw_R, clr_cons, clr_nil, kst_0, kst_1, kstL_0, kstL_1, addk_I, pA_0, pA_s, pD_0, pD_s, wid_nil, wid_cons, rcv_c, putv_I, putv_L, List.length_cons, List.length_nil, List.set_cons_zero, List.set_cons_succ, not_false_eq_true, Nat.reduceMod, Nat.reduceDiv, Nat.reduceEqDiff, Nat.reduceLT, Nat.reduceLeDiff, Nat.reduceAdd, Nat.reduceSub, reduceIte, Nat.lt_irrefl, Nat.zero_ne_one, Nat.one_ne_zero, Nat.zero_add, List.nil_append, List.cons_append, Option.toList_some, Option.toList_none, forall_const, false_implies, true_implies, false_or, or_false, true_or, or_true, i_le, i_lt, i_eq, i_eq0, i_lt0, i_0le, i_0lt, i_le0, i_in1, i_cl, nI_add, pk_mul, pk_sub, i_div, i_rem, i_sh1, i_bit, i_or, i_and, i_andn, nt_le, nf_le, nt_lt, nf_lt, nt_eq, nf_eq, not_true_eq_false, and_self, and_false, false_and, eq_self, Bool.toNat_true, Bool.toNat_false, i_bool, i_bool1, Bool.false_eq_true, Bool.true_eq_false, reduceCtorEq, i_neg1, i_neg2, i_neg3, i_neg4, i_neg5, i_neg6, i_neg7, i_neg8, i_neg9, i_nega, i_negb, i_negc, i_max2, i_min2])
                  refine c_act hx2 (by omega) hy2 hok (by decide) k1 (fun T x1 x2 fx => ?_)
                  rw [k2] at x2
                  try simp (disch := omega) only [no0, no1, nz1, nz2, nz3, nz4, nz5, nz7, nz8, Classical.not_not, bz0, bz1, wi_nil, ld_0, ld_s, isIv_I, isLv_L, isRv_R, true_and, and_true, lset_0, lset_1, lset_s, avw_I, avw_L, avw_R, clr_cons, clr_nil, kst_0, kst_1, kstL_0, kstL_1, addk_I, pA_0, pA_s, pD_0, pD_s, wid_nil, wid_cons, rcv_c, putv_I, putv_L, List.length_cons, List.length_nil, List.set_cons_zero, List.set_cons_succ, not_false_eq_true, Nat.reduceMod, Nat.reduceDiv, Nat.reduceEqDiff, Nat.reduceLT, Nat.reduceLeDiff, Nat.reduceAdd, Nat.reduceSub, reduceIte, Nat.lt_irrefl, Nat.zero_ne_one, Nat.one_ne_zero, Nat.zero_add, List.nil_append, List.cons_append, Option.toList_some, Option.toList_none, forall_const, false_implies, true_implies, false_or, or_false, true_or, or_true, i_le, i_lt, i_eq, i_eq0, i_lt0, i_0le, i_0lt, i_le0, i_in1, i_cl, nI_add, pk_mul, pk_sub, i_div, i_rem, i_sh1, i_bit, i_or, i_and, i_andn, nt_le, nf_le, nt_lt, nf_lt, nt_eq, nf_eq, not_true_eq_false, and_self, and_false, false_and, eq_self, Bool.toNat_true, Bool.toNat_false, i_bool, i_bool1, Bool.false_eq_true, Bool.true_eq_false, reduceCtorEq, i_neg1, i_neg2, i_neg3, i_neg4, i_neg5, i_neg6, i_neg7, i_neg8, i_neg9, i_nega, i_negb, i_negc, i_max2, i_min2, wi_nil]
                  repeat (
                    first
                    | refine s_X8_day_0 ?_
                    | refine s_X8_day_5 ?_
                    | refine s_X8_day_13 ?_
                    | refine s_X8_day_36 ?_
                    | refine s_X8_day_38 ?_
                    | refine s_X8_day_51 ?_
                    | refine s_X8_day_58 ?_
                    | refine s_X8_day_74 ?_
                    | refine s_X8_day_84 ?_
                    | refine s_X8_day_87 ?_
                    | refine s_X8_day_95 ?_
                    | refine s_X8_day_101 ?_
                    | refine s_X8_day_108 ?_
                    | refine s_X8_day_111 ?_
                    | refine s_X8_day_115 ?_
                    simp (disch := omega) only [B_X8_day_0, wi_aload_n, wi_iload_n, wi_invokevirtual, cnt_7, B_X8_day_5, wi_if_eq, B_X8_day_13, wi_iand, wi_if_ne, wi_ior, wi_getfield, fldv_7_3, fds_7_3, fldv_6_11, fds_6_11, cnt_6, B_X8_day_36, wi_iconst, wi_ireturn, B_X8_day_38, fldv_6_7, fds_6_7, wi_bipush, B_X8_day_51, B_X8_day_58, wi_iaload, fldv_6_9, fds_6_9, wi_icmp_gt, wi_invokestatic, B_X8_day_74, fldv_6_10, fds_6_10, wi_icmp_le, B_X8_day_84, B_X8_day_87, fldv_7_6, fds_7_6, cnt_0, B_X8_day_95, B_X8_day_101, B_X8_day_108, B_X8_day_111, B_X8_day_115, no0, no1, nz1, nz2, nz3, nz4, nz5, nz7, nz8, Classical.not_not, bz0, bz1, wi_nil, ld_0, ld_s, isIv_I, isLv_L, isRv_R, true_and, and_true, lset_0, lset_1, lset_s, avw_I, avw_L, avw_R, clr_cons, clr_nil, kst_0, kst_1, kstL_0, kstL_1, addk_I, pA_0, pA_s, pD_0, pD_s, wid_nil, wid_cons, rcv_c, putv_I, putv_L, List.length_cons, List.length_nil, List.set_cons_zero, List.set_cons_succ, not_false_eq_true, Nat.reduceMod, Nat.reduceDiv, Nat.reduceEqDiff, Nat.reduceLT, Nat.reduceLeDiff, Nat.reduceAdd, Nat.reduceSub, reduceIte, Nat.lt_irrefl, Nat.zero_ne_one, Nat.one_ne_zero, Nat.zero_add, List.nil_append, List.cons_append, Option.toList_some, Option.toList_none, forall_const, false_implies, true_implies, false_or, or_false, true_or, or_true, i_le, i_lt, i_eq, i_eq0, i_lt0, i_0le, i_0lt, i_le0, i_in1, i_cl, nI_add, pk_mul, pk_sub, i_div, i_rem, i_sh1, i_bit, i_or, i_and, i_andn, nt_le, nf_le, nt_lt, nf_lt, nt_eq, nf_eq, not_true_eq_false, and_self, and_false, false_and, eq_self, Bool.toNat_true, Bool.toNat_false, i_bool, i_bool1, Bool.false_eq_true, Bool.true_eq_false, reduceCtorEq, i_neg1, i_neg2, i_neg3, i_neg4, i_neg5, i_neg6, i_neg7, i_neg8, i_neg9, i_nega, i_negb, i_negc, i_max2, i_min2])
                  refine c_bitCount (by omega) ?_
                  try simp (disch := omega) only [no0, no1, nz1, nz2, nz3, nz4, nz5, nz7, nz8, Classical.not_not, bz0, bz1, wi_nil, ld_0, ld_s, isIv_I, isLv_L, isRv_R, true_and, and_true, lset_0, lset_1, lset_s, avw_I, avw_L, avw_R, clr_cons, clr_nil, kst_0, kst_1, kstL_0, kstL_1, addk_I, pA_0, pA_s, pD_0, pD_s, wid_nil, wid_cons, rcv_c, putv_I, putv_L, List.length_cons, List.length_nil, List.set_cons_zero, List.set_cons_succ, not_false_eq_true, Nat.reduceMod, Nat.reduceDiv, Nat.reduceEqDiff, Nat.reduceLT, Nat.reduceLeDiff, Nat.reduceAdd, Nat.reduceSub, reduceIte, Nat.lt_irrefl, Nat.zero_ne_one, Nat.one_ne_zero, Nat.zero_add, List.nil_append, List.cons_append, Option.toList_some, Option.toList_none, forall_const, false_implies, true_implies, false_or, or_false, true_or, or_true, i_le, i_lt, i_eq, i_eq0, i_lt0, i_0le, i_0lt, i_le0, i_in1, i_cl, nI_add, pk_mul, pk_sub, i_div, i_rem, i_sh1, i_bit, i_or, i_and, i_andn, nt_le, nf_le, nt_lt, nf_lt, nt_eq, nf_eq, not_true_eq_false, and_self, and_false, false_and, eq_self, Bool.toNat_true, Bool.toNat_false, i_bool, i_bool1, Bool.false_eq_true, Bool.true_eq_false, reduceCtorEq, i_neg1, i_neg2, i_neg3, i_neg4, i_neg5, i_neg6, i_neg7, i_neg8, i_neg9, i_nega, i_negb, i_negc, i_max2, i_min2, wi_nil]
                  repeat (
                    first
                    | refine s_X8_day_0 ?_
                    | refine s_X8_day_5 ?_
                    | refine s_X8_day_13 ?_
                    | refine s_X8_day_36 ?_
                    | refine s_X8_day_38 ?_
                    | refine s_X8_day_51 ?_
                    | refine s_X8_day_58 ?_
                    | refine s_X8_day_74 ?_
                    | refine s_X8_day_84 ?_
                    | refine s_X8_day_87 ?_
                    | refine s_X8_day_95 ?_
                    | refine s_X8_day_101 ?_
                    | refine s_X8_day_108 ?_
                    | refine s_X8_day_111 ?_
                    | refine s_X8_day_115 ?_
                    simp (disch := omega) only [B_X8_day_0, wi_aload_n, wi_iload_n, wi_invokevirtual, cnt_7, B_X8_day_5, wi_if_eq, B_X8_day_13, wi_iand, wi_if_ne, wi_ior, wi_getfield, fldv_7_3, fds_7_3, fldv_6_11, fds_6_11, cnt_6, B_X8_day_36, wi_iconst, wi_ireturn, B_X8_day_38, fldv_6_7, fds_6_7, wi_bipush, B_X8_day_51, B_X8_day_58, wi_iaload, fldv_6_9, fds_6_9, wi_icmp_gt, wi_invokestatic, B_X8_day_74, fldv_6_10, fds_6_10, wi_icmp_le, B_X8_day_84, B_X8_day_87, fldv_7_6, fds_7_6, cnt_0, B_X8_day_95, B_X8_day_101, B_X8_day_108, B_X8_day_111, B_X8_day_115, no0, no1, nz1, nz2, nz3, nz4, nz5, nz7, nz8, Classical.not_not, bz0, bz1, wi_nil, ld_0, ld_s, isIv_I, isLv_L, isRv_R, true_and, and_true, lset_0, lset_1, lset_s, avw_I, avw_L, avw_R, clr_cons, clr_nil, kst_0, kst_1, kstL_0, kstL_1, addk_I, pA_0, pA_s, pD_0, pD_s, wid_nil, wid_cons, rcv_c, putv_I, putv_L, List.length_cons, List.length_nil, List.set_cons_zero, List.set_cons_succ, not_false_eq_true, Nat.reduceMod, Nat.reduceDiv, Nat.reduceEqDiff, Nat.reduceLT, Nat.reduceLeDiff, Nat.reduceAdd, Nat.reduceSub, reduceIte, Nat.lt_irrefl, Nat.zero_ne_one, Nat.one_ne_zero, Nat.zero_add, List.nil_append, List.cons_append, Option.toList_some, Option.toList_none, forall_const, false_implies, true_implies, false_or, or_false, true_or, or_true, i_le, i_lt, i_eq, i_eq0, i_lt0, i_0le, i_0lt, i_le0, i_in1, i_cl, nI_add, pk_mul, pk_sub, i_div, i_rem, i_sh1, i_bit, i_or, i_and, i_andn, nt_le, nf_le, nt_lt, nf_lt, nt_eq, nf_eq, not_true_eq_false, and_self, and_false, false_and, eq_self, Bool.toNat_true, Bool.toNat_false, i_bool, i_bool1, Bool.false_eq_true, Bool.true_eq_false, reduceCtorEq, i_neg1, i_neg2, i_neg3, i_neg4, i_neg5, i_neg6, i_neg7, i_neg8, i_neg9, i_nega, i_negb, i_negc, i_max2, i_min2])
                  refine px ?_
                  have hmT : YrM T 40 Y := yrm_fr hm2 fx rfl rfl
                  have hlT : MLg T Y0 as := mlg_fr (show MLg (sA S 26 1 r) Y0 as from hlg) fx rfl
                  refine x_entry (ls2 := [aR 8 0, aI (nI s), aI (nI o), aU]) (Nat.le_of_ble_eq_true rfl) pl_9 rfl (Nat.le_of_ble_eq_true rfl) ?_
                  try simp (disch := omega) only [no0, no1, nz1, nz2, nz3, nz4, nz5, nz7, nz8, Classical.not_not, bz0, bz1, wi_nil, ld_0, ld_s, isIv_I, isLv_L, isRv_R, true_and, and_true, lset_0, lset_1, lset_s, avw_I, avw_L, avw_R, clr_cons, clr_nil, kst_0, kst_1, kstL_0, kstL_1, addk_I, pA_0, pA_s, pD_0, pD_s, wid_nil, wid_cons, rcv_c, putv_I, putv_L, List.length_cons, List.length_nil, List.set_cons_zero, List.set_cons_succ, not_false_eq_true, Nat.reduceMod, Nat.reduceDiv, Nat.reduceEqDiff, Nat.reduceLT, Nat.reduceLeDiff, Nat.reduceAdd, Nat.reduceSub, reduceIte, Nat.lt_irrefl, Nat.zero_ne_one, Nat.one_ne_zero, Nat.zero_add, List.nil_append, List.cons_append, Option.toList_some, Option.toList_none, forall_const, false_implies, true_implies, false_or, or_false, true_or, or_true, i_le, i_lt, i_eq, i_eq0, i_lt0, i_0le, i_0lt, i_le0, i_in1, i_cl, nI_add, pk_mul, pk_sub, i_div, i_rem, i_sh1, i_bit, i_or, i_and, i_andn, nt_le, nf_le, nt_lt, nf_lt, nt_eq, nf_eq, not_true_eq_false, and_self, and_false, false_and, eq_self, Bool.toNat_true, Bool.toNat_false, i_bool, i_bool1, Bool.false_eq_true, Bool.true_eq_false, reduceCtorEq, i_neg1, i_neg2, i_neg3, i_neg4, i_neg5, i_neg6, i_neg7, i_neg8, i_neg9, i_nega, i_negb, i_negc, i_max2, i_min2, wi_nil]
                  repeat (
                    first
                    | refine s_X9_day_0 ?_
                    | refine s_X9_day_5 ?_
                    | refine s_X9_day_13 ?_
                    | refine s_X9_day_39 ?_
                    | refine s_X9_day_40 ?_
                    | refine s_X9_day_47 ?_
                    | refine s_X9_day_57 ?_
                    | refine s_X9_day_66 ?_
                    | refine s_X9_day_79 ?_
                    | refine s_X9_day_88 ?_
                    | refine s_X9_day_91 ?_
                    | refine s_X9_day_103 ?_
                    | refine s_X9_day_107 ?_
                    | refine s_X9_day_117 ?_
                    | refine s_X9_day_121 ?_
                    simp (disch := omega) only [B_X9_day_0, wi_aload_n, wi_iload_n, wi_invokevirtual, cnt_8, B_X9_day_5, wi_if_eq, B_X9_day_13, wi_iand, wi_if_ne, wi_ior, wi_getfield, fldv_8_20, fds_8_20, wi_iconst, wi_iaload, wi_goto, cnt_40, aTy_40, aLn_40, arr_40, B_X9_day_39, B_X9_day_40, wi_istore_n, wi_ireturn, B_X9_day_47, fldv_8_10, fds_8_10, wi_bipush, B_X9_day_57, B_X9_day_66, wi_icmp_gt, wi_invokestatic, B_X9_day_79, wi_icmp_le, B_X9_day_88, B_X9_day_91, fldv_8_22, fds_8_22, wi_icmp_ne, B_X9_day_103, B_X9_day_107, B_X9_day_117, B_X9_day_121, no0, no1, nz1, nz2, nz3, nz4, nz5, nz7, nz8, Classical.not_not, bz0, bz1, wi_nil, ld_0, ld_s, isIv_I, isLv_L, isRv_R, true_and, and_true, lset_0, lset_1, lset_s, avw_I, avw_L, avw_R, clr_cons, clr_nil, kst_0, kst_1, kstL_0, kstL_1, addk_I, pA_0, pA_s, pD_0, pD_s, wid_nil, wid_cons, rcv_c, putv_I, putv_L, List.length_cons, List.length_nil, List.set_cons_zero, List.set_cons_succ, not_false_eq_true, Nat.reduceMod, Nat.reduceDiv, Nat.reduceEqDiff, Nat.reduceLT, Nat.reduceLeDiff, Nat.reduceAdd, Nat.reduceSub, reduceIte, Nat.lt_irrefl, Nat.zero_ne_one, Nat.one_ne_zero, Nat.zero_add, List.nil_append, List.cons_append, Option.toList_some, Option.toList_none, forall_const, false_implies, true_implies, false_or, or_false, true_or, or_true, i_le, i_lt, i_eq, i_eq0, i_lt0, i_0le, i_0lt, i_le0, i_in1, i_cl, nI_add, pk_mul, pk_sub, i_div, i_rem, i_sh1, i_bit, i_or, i_and, i_andn, nt_le, nf_le, nt_lt, nf_lt, nt_eq, nf_eq, not_true_eq_false, and_self, and_false, false_and, eq_self, Bool.toNat_true, Bool.toNat_false, i_bool, i_bool1, Bool.false_eq_true, Bool.true_eq_false, reduceCtorEq, i_neg1, i_neg2, i_neg3, i_neg4, i_neg5, i_neg6, i_neg7, i_neg8, i_neg9, i_nega, i_negb, i_negc, i_max2, i_min2])
                  refine c_mSet hmT hn5 ?_
                  try simp (disch := omega) only [no0, no1, nz1, nz2, nz3, nz4, nz5, nz7, nz8, Classical.not_not, bz0, bz1, wi_nil, ld_0, ld_s, isIv_I, isLv_L, isRv_R, true_and, and_true, lset_0, lset_1, lset_s, avw_I, avw_L, avw_R, clr_cons, clr_nil, kst_0, kst_1, kstL_0, kstL_1, addk_I, pA_0, pA_s, pD_0, pD_s, wid_nil, wid_cons, rcv_c, putv_I, putv_L, List.length_cons, List.length_nil, List.set_cons_zero, List.set_cons_succ, not_false_eq_true, Nat.reduceMod, Nat.reduceDiv, Nat.reduceEqDiff, Nat.reduceLT, Nat.reduceLeDiff, Nat.reduceAdd, Nat.reduceSub, reduceIte, Nat.lt_irrefl, Nat.zero_ne_one, Nat.one_ne_zero, Nat.zero_add, List.nil_append, List.cons_append, Option.toList_some, Option.toList_none, forall_const, false_implies, true_implies, false_or, or_false, true_or, or_true, i_le, i_lt, i_eq, i_eq0, i_lt0, i_0le, i_0lt, i_le0, i_in1, i_cl, nI_add, pk_mul, pk_sub, i_div, i_rem, i_sh1, i_bit, i_or, i_and, i_andn, nt_le, nf_le, nt_lt, nf_lt, nt_eq, nf_eq, not_true_eq_false, and_self, and_false, false_and, eq_self, Bool.toNat_true, Bool.toNat_false, i_bool, i_bool1, Bool.false_eq_true, Bool.true_eq_false, reduceCtorEq, i_neg1, i_neg2, i_neg3, i_neg4, i_neg5, i_neg6, i_neg7, i_neg8, i_neg9, i_nega, i_negb, i_negc, i_max2, i_min2, hs, wi_nil]
                  repeat (
                    first
                    | refine s_X9_day_0 ?_
                    | refine s_X9_day_5 ?_
                    | refine s_X9_day_13 ?_
                    | refine s_X9_day_39 ?_
                    | refine s_X9_day_40 ?_
                    | refine s_X9_day_47 ?_
                    | refine s_X9_day_57 ?_
                    | refine s_X9_day_66 ?_
                    | refine s_X9_day_79 ?_
                    | refine s_X9_day_88 ?_
                    | refine s_X9_day_91 ?_
                    | refine s_X9_day_103 ?_
                    | refine s_X9_day_107 ?_
                    | refine s_X9_day_117 ?_
                    | refine s_X9_day_121 ?_
                    simp (disch := omega) only [B_X9_day_0, wi_aload_n, wi_iload_n, wi_invokevirtual, cnt_8, B_X9_day_5, wi_if_eq, B_X9_day_13, wi_iand, wi_if_ne, wi_ior, wi_getfield, fldv_8_20, fds_8_20, wi_iconst, wi_iaload, wi_goto, cnt_40, aTy_40, aLn_40, arr_40, B_X9_day_39, B_X9_day_40, wi_istore_n, wi_ireturn, B_X9_day_47, fldv_8_10, fds_8_10, wi_bipush, B_X9_day_57, B_X9_day_66, wi_icmp_gt, wi_invokestatic, B_X9_day_79, wi_icmp_le, B_X9_day_88, B_X9_day_91, fldv_8_22, fds_8_22, wi_icmp_ne, B_X9_day_103, B_X9_day_107, B_X9_day_117, B_X9_day_121, no0, no1, nz1, nz2, nz3, nz4, nz5, nz7, nz8, Classical.not_not, bz0, bz1, wi_nil, ld_0, ld_s, isIv_I, isLv_L, isRv_R, true_and, and_true, lset_0, lset_1, lset_s, avw_I, avw_L, avw_R, clr_cons, clr_nil, kst_0, kst_1, kstL_0, kstL_1, addk_I, pA_0, pA_s, pD_0, pD_s, wid_nil, wid_cons, rcv_c, putv_I, putv_L, List.length_cons, List.length_nil, List.set_cons_zero, List.set_cons_succ, not_false_eq_true, Nat.reduceMod, Nat.reduceDiv, Nat.reduceEqDiff, Nat.reduceLT, Nat.reduceLeDiff, Nat.reduceAdd, Nat.reduceSub, reduceIte, Nat.lt_irrefl, Nat.zero_ne_one, Nat.one_ne_zero, Nat.zero_add, List.nil_append, List.cons_append, Option.toList_some, Option.toList_none, forall_const, false_implies, true_implies, false_or, or_false, true_or, or_true, i_le, i_lt, i_eq, i_eq0, i_lt0, i_0le, i_0lt, i_le0, i_in1, i_cl, nI_add, pk_mul, pk_sub, i_div, i_rem, i_sh1, i_bit, i_or, i_and, i_andn, nt_le, nf_le, nt_lt, nf_lt, nt_eq, nf_eq, not_true_eq_false, and_self, and_false, false_and, eq_self, Bool.toNat_true, Bool.toNat_false, i_bool, i_bool1, Bool.false_eq_true, Bool.true_eq_false, reduceCtorEq, i_neg1, i_neg2, i_neg3, i_neg4, i_neg5, i_neg6, i_neg7, i_neg8, i_neg9, i_nega, i_negb, i_negc, i_max2, i_min2, hs])
                  refine c_mSet hmT hn5 ?_
                  try simp (disch := omega) only [no0, no1, nz1, nz2, nz3, nz4, nz5, nz7, nz8, Classical.not_not, bz0, bz1, wi_nil, ld_0, ld_s, isIv_I, isLv_L, isRv_R, true_and, and_true, lset_0, lset_1, lset_s, avw_I, avw_L, avw_R, clr_cons, clr_nil, kst_0, kst_1, kstL_0, kstL_1, addk_I, pA_0, pA_s, pD_0, pD_s, wid_nil, wid_cons, rcv_c, putv_I, putv_L, List.length_cons, List.length_nil, List.set_cons_zero, List.set_cons_succ, not_false_eq_true, Nat.reduceMod, Nat.reduceDiv, Nat.reduceEqDiff, Nat.reduceLT, Nat.reduceLeDiff, Nat.reduceAdd, Nat.reduceSub, reduceIte, Nat.lt_irrefl, Nat.zero_ne_one, Nat.one_ne_zero, Nat.zero_add, List.nil_append, List.cons_append, Option.toList_some, Option.toList_none, forall_const, false_implies, true_implies, false_or, or_false, true_or, or_true, i_le, i_lt, i_eq, i_eq0, i_lt0, i_0le, i_0lt, i_le0, i_in1, i_cl, nI_add, pk_mul, pk_sub, i_div, i_rem, i_sh1, i_bit, i_or, i_and, i_andn, nt_le, nf_le, nt_lt, nf_lt, nt_eq, nf_eq, not_true_eq_false, and_self, and_false, false_and, eq_self, Bool.toNat_true, Bool.toNat_false, i_bool, i_bool1, Bool.false_eq_true, Bool.true_eq_false, reduceCtorEq, i_neg1, i_neg2, i_neg3, i_neg4, i_neg5, i_neg6, i_neg7, i_neg8, i_neg9, i_nega, i_negb, i_negc, i_max2, i_min2, hoo, (m_gone hmT), (m_n hmT), wi_nil]
                  repeat (
                    first
                    | refine s_X9_day_0 ?_
                    | refine s_X9_day_5 ?_
                    | refine s_X9_day_13 ?_
                    | refine s_X9_day_39 ?_
                    | refine s_X9_day_40 ?_
                    | refine s_X9_day_47 ?_
                    | refine s_X9_day_57 ?_
                    | refine s_X9_day_66 ?_
                    | refine s_X9_day_79 ?_
                    | refine s_X9_day_88 ?_
                    | refine s_X9_day_91 ?_
                    | refine s_X9_day_103 ?_
                    | refine s_X9_day_107 ?_
                    | refine s_X9_day_117 ?_
                    | refine s_X9_day_121 ?_
                    simp (disch := omega) only [B_X9_day_0, wi_aload_n, wi_iload_n, wi_invokevirtual, cnt_8, B_X9_day_5, wi_if_eq, B_X9_day_13, wi_iand, wi_if_ne, wi_ior, wi_getfield, fldv_8_20, fds_8_20, wi_iconst, wi_iaload, wi_goto, cnt_40, aTy_40, aLn_40, arr_40, B_X9_day_39, B_X9_day_40, wi_istore_n, wi_ireturn, B_X9_day_47, fldv_8_10, fds_8_10, wi_bipush, B_X9_day_57, B_X9_day_66, wi_icmp_gt, wi_invokestatic, B_X9_day_79, wi_icmp_le, B_X9_day_88, B_X9_day_91, fldv_8_22, fds_8_22, wi_icmp_ne, B_X9_day_103, B_X9_day_107, B_X9_day_117, B_X9_day_121, no0, no1, nz1, nz2, nz3, nz4, nz5, nz7, nz8, Classical.not_not, bz0, bz1, wi_nil, ld_0, ld_s, isIv_I, isLv_L, isRv_R, true_and, and_true, lset_0, lset_1, lset_s, avw_I, avw_L, avw_R, clr_cons, clr_nil, kst_0, kst_1, kstL_0, kstL_1, addk_I, pA_0, pA_s, pD_0, pD_s, wid_nil, wid_cons, rcv_c, putv_I, putv_L, List.length_cons, List.length_nil, List.set_cons_zero, List.set_cons_succ, not_false_eq_true, Nat.reduceMod, Nat.reduceDiv, Nat.reduceEqDiff, Nat.reduceLT, Nat.reduceLeDiff, Nat.reduceAdd, Nat.reduceSub, reduceIte, Nat.lt_irrefl, Nat.zero_ne_one, Nat.one_ne_zero, Nat.zero_add, List.nil_append, List.cons_append, Option.toList_some, Option.toList_none, forall_const, false_implies, true_implies, false_or, or_false, true_or, or_true, i_le, i_lt, i_eq, i_eq0, i_lt0, i_0le, i_0lt, i_le0, i_in1, i_cl, nI_add, pk_mul, pk_sub, i_div, i_rem, i_sh1, i_bit, i_or, i_and, i_andn, nt_le, nf_le, nt_lt, nf_lt, nt_eq, nf_eq, not_true_eq_false, and_self, and_false, false_and, eq_self, Bool.toNat_true, Bool.toNat_false, i_bool, i_bool1, Bool.false_eq_true, Bool.true_eq_false, reduceCtorEq, i_neg1, i_neg2, i_neg3, i_neg4, i_neg5, i_neg6, i_neg7, i_neg8, i_neg9, i_nega, i_negb, i_negc, i_max2, i_min2, hoo, (m_gone hmT), (m_n hmT)])
                  refine c_costsOf (Or.inl rfl) hmT hok (by decide) (by omega) ?_
                  try simp (disch := omega) only [no0, no1, nz1, nz2, nz3, nz4, nz5, nz7, nz8, Classical.not_not, bz0, bz1, wi_nil, ld_0, ld_s, isIv_I, isLv_L, isRv_R, true_and, and_true, lset_0, lset_1, lset_s, avw_I, avw_L, avw_R, clr_cons, clr_nil, kst_0, kst_1, kstL_0, kstL_1, addk_I, pA_0, pA_s, pD_0, pD_s, wid_nil, wid_cons, rcv_c, putv_I, putv_L, List.length_cons, List.length_nil, List.set_cons_zero, List.set_cons_succ, not_false_eq_true, Nat.reduceMod, Nat.reduceDiv, Nat.reduceEqDiff, Nat.reduceLT, Nat.reduceLeDiff, Nat.reduceAdd, Nat.reduceSub, reduceIte, Nat.lt_irrefl, Nat.zero_ne_one, Nat.one_ne_zero, Nat.zero_add, List.nil_append, List.cons_append, Option.toList_some, Option.toList_none, forall_const, false_implies, true_implies, false_or, or_false, true_or, or_true, i_le, i_lt, i_eq, i_eq0, i_lt0, i_0le, i_0lt, i_le0, i_in1, i_cl, nI_add, pk_mul, pk_sub, i_div, i_rem, i_sh1, i_bit, i_or, i_and, i_andn, nt_le, nf_le, nt_lt, nf_lt, nt_eq, nf_eq, not_true_eq_false, and_self, and_false, false_and, eq_self, Bool.toNat_true, Bool.toNat_false, i_bool, i_bool1, Bool.false_eq_true, Bool.true_eq_false, reduceCtorEq, i_neg1, i_neg2, i_neg3, i_neg4, i_neg5, i_neg6, i_neg7, i_neg8, i_neg9, i_nega, i_negb, i_negc, i_max2, i_min2, (m_will hmT), wi_nil]
                  repeat (
                    first
                    | refine s_X9_day_0 ?_
                    | refine s_X9_day_5 ?_
                    | refine s_X9_day_13 ?_
                    | refine s_X9_day_39 ?_
                    | refine s_X9_day_40 ?_
                    | refine s_X9_day_47 ?_
                    | refine s_X9_day_57 ?_
                    | refine s_X9_day_66 ?_
                    | refine s_X9_day_79 ?_
                    | refine s_X9_day_88 ?_
                    | refine s_X9_day_91 ?_
                    | refine s_X9_day_103 ?_
                    | refine s_X9_day_107 ?_
                    | refine s_X9_day_117 ?_
                    | refine s_X9_day_121 ?_
                    simp (disch := omega) only [B_X9_day_0, wi_aload_n, wi_iload_n, wi_invokevirtual, cnt_8, B_X9_day_5, wi_if_eq, B_X9_day_13, wi_iand, wi_if_ne, wi_ior, wi_getfield, fldv_8_20, fds_8_20, wi_iconst, wi_iaload, wi_goto, cnt_40, aTy_40, aLn_40, arr_40, B_X9_day_39, B_X9_day_40, wi_istore_n, wi_ireturn, B_X9_day_47, fldv_8_10, fds_8_10, wi_bipush, B_X9_day_57, B_X9_day_66, wi_icmp_gt, wi_invokestatic, B_X9_day_79, wi_icmp_le, B_X9_day_88, B_X9_day_91, fldv_8_22, fds_8_22, wi_icmp_ne, B_X9_day_103, B_X9_day_107, B_X9_day_117, B_X9_day_121, no0, no1, nz1, nz2, nz3, nz4, nz5, nz7, nz8, Classical.not_not, bz0, bz1, wi_nil, ld_0, ld_s, isIv_I, isLv_L, isRv_R, true_and, and_true, lset_0, lset_1, lset_s, avw_I, avw_L, avw_R, clr_cons, clr_nil, kst_0, kst_1, kstL_0, kstL_1, addk_I, pA_0, pA_s, pD_0, pD_s, wid_nil, wid_cons, rcv_c, putv_I, putv_L, List.length_cons, List.length_nil, List.set_cons_zero, List.set_cons_succ, not_false_eq_true, Nat.reduceMod, Nat.reduceDiv, Nat.reduceEqDiff, Nat.reduceLT, Nat.reduceLeDiff, Nat.reduceAdd, Nat.reduceSub, reduceIte, Nat.lt_irrefl, Nat.zero_ne_one, Nat.one_ne_zero, Nat.zero_add, List.nil_append, List.cons_append, Option.toList_some, Option.toList_none, forall_const, false_implies, true_implies, false_or, or_false, true_or, or_true, i_le, i_lt, i_eq, i_eq0, i_lt0, i_0le, i_0lt, i_le0, i_in1, i_cl, nI_add, pk_mul, pk_sub, i_div, i_rem, i_sh1, i_bit, i_or, i_and, i_andn, nt_le, nf_le, nt_lt, nf_lt, nt_eq, nf_eq, not_true_eq_false, and_self, and_false, false_and, eq_self, Bool.toNat_true, Bool.toNat_false, i_bool, i_bool1, Bool.false_eq_true, Bool.true_eq_false, reduceCtorEq, i_neg1, i_neg2, i_neg3, i_neg4, i_neg5, i_neg6, i_neg7, i_neg8, i_neg9, i_nega, i_negb, i_negc, i_max2, i_min2, (m_will hmT)])
                  refine c_bits (by omega) ?_
                  try simp (disch := omega) only [no0, no1, nz1, nz2, nz3, nz4, nz5, nz7, nz8, Classical.not_not, bz0, bz1, wi_nil, ld_0, ld_s, isIv_I, isLv_L, isRv_R, true_and, and_true, lset_0, lset_1, lset_s, avw_I, avw_L, avw_R, clr_cons, clr_nil, kst_0, kst_1, kstL_0, kstL_1, addk_I, pA_0, pA_s, pD_0, pD_s, wid_nil, wid_cons, rcv_c, putv_I, putv_L, List.length_cons, List.length_nil, List.set_cons_zero, List.set_cons_succ, not_false_eq_true, Nat.reduceMod, Nat.reduceDiv, Nat.reduceEqDiff, Nat.reduceLT, Nat.reduceLeDiff, Nat.reduceAdd, Nat.reduceSub, reduceIte, Nat.lt_irrefl, Nat.zero_ne_one, Nat.one_ne_zero, Nat.zero_add, List.nil_append, List.cons_append, Option.toList_some, Option.toList_none, forall_const, false_implies, true_implies, false_or, or_false, true_or, or_true, i_le, i_lt, i_eq, i_eq0, i_lt0, i_0le, i_0lt, i_le0, i_in1, i_cl, nI_add, pk_mul, pk_sub, i_div, i_rem, i_sh1, i_bit, i_or, i_and, i_andn, nt_le, nf_le, nt_lt, nf_lt, nt_eq, nf_eq, not_true_eq_false, and_self, and_false, false_and, eq_self, Bool.toNat_true, Bool.toNat_false, i_bool, i_bool1, Bool.false_eq_true, Bool.true_eq_false, reduceCtorEq, i_neg1, i_neg2, i_neg3, i_neg4, i_neg5, i_neg6, i_neg7, i_neg8, i_neg9, i_nega, i_negb, i_negc, i_max2, i_min2, (m_offs hmT), hlT.1, wi_nil]
                  repeat (
                    first
                    | refine s_X9_day_0 ?_
                    | refine s_X9_day_5 ?_
                    | refine s_X9_day_13 ?_
                    | refine s_X9_day_39 ?_
                    | refine s_X9_day_40 ?_
                    | refine s_X9_day_47 ?_
                    | refine s_X9_day_57 ?_
                    | refine s_X9_day_66 ?_
                    | refine s_X9_day_79 ?_
                    | refine s_X9_day_88 ?_
                    | refine s_X9_day_91 ?_
                    | refine s_X9_day_103 ?_
                    | refine s_X9_day_107 ?_
                    | refine s_X9_day_117 ?_
                    | refine s_X9_day_121 ?_
                    simp (disch := omega) only [B_X9_day_0, wi_aload_n, wi_iload_n, wi_invokevirtual, cnt_8, B_X9_day_5, wi_if_eq, B_X9_day_13, wi_iand, wi_if_ne, wi_ior, wi_getfield, fldv_8_20, fds_8_20, wi_iconst, wi_iaload, wi_goto, cnt_40, aTy_40, aLn_40, arr_40, B_X9_day_39, B_X9_day_40, wi_istore_n, wi_ireturn, B_X9_day_47, fldv_8_10, fds_8_10, wi_bipush, B_X9_day_57, B_X9_day_66, wi_icmp_gt, wi_invokestatic, B_X9_day_79, wi_icmp_le, B_X9_day_88, B_X9_day_91, fldv_8_22, fds_8_22, wi_icmp_ne, B_X9_day_103, B_X9_day_107, B_X9_day_117, B_X9_day_121, no0, no1, nz1, nz2, nz3, nz4, nz5, nz7, nz8, Classical.not_not, bz0, bz1, wi_nil, ld_0, ld_s, isIv_I, isLv_L, isRv_R, true_and, and_true, lset_0, lset_1, lset_s, avw_I, avw_L, avw_R, clr_cons, clr_nil, kst_0, kst_1, kstL_0, kstL_1, addk_I, pA_0, pA_s, pD_0, pD_s, wid_nil, wid_cons, rcv_c, putv_I, putv_L, List.length_cons, List.length_nil, List.set_cons_zero, List.set_cons_succ, not_false_eq_true, Nat.reduceMod, Nat.reduceDiv, Nat.reduceEqDiff, Nat.reduceLT, Nat.reduceLeDiff, Nat.reduceAdd, Nat.reduceSub, reduceIte, Nat.lt_irrefl, Nat.zero_ne_one, Nat.one_ne_zero, Nat.zero_add, List.nil_append, List.cons_append, Option.toList_some, Option.toList_none, forall_const, false_implies, true_implies, false_or, or_false, true_or, or_true, i_le, i_lt, i_eq, i_eq0, i_lt0, i_0le, i_0lt, i_le0, i_in1, i_cl, nI_add, pk_mul, pk_sub, i_div, i_rem, i_sh1, i_bit, i_or, i_and, i_andn, nt_le, nf_le, nt_lt, nf_lt, nt_eq, nf_eq, not_true_eq_false, and_self, and_false, false_and, eq_self, Bool.toNat_true, Bool.toNat_false, i_bool, i_bool1, Bool.false_eq_true, Bool.true_eq_false, reduceCtorEq, i_neg1, i_neg2, i_neg3, i_neg4, i_neg5, i_neg6, i_neg7, i_neg8, i_neg9, i_nega, i_negb, i_negc, i_max2, i_min2, (m_offs hmT), hlT.1])
                  refine c_remember (by omega) hlT.1 ?_
                  try simp (disch := omega) only [no0, no1, nz1, nz2, nz3, nz4, nz5, nz7, nz8, Classical.not_not, bz0, bz1, wi_nil, ld_0, ld_s, isIv_I, isLv_L, isRv_R, true_and, and_true, lset_0, lset_1, lset_s, avw_I, avw_L, avw_R, clr_cons, clr_nil, kst_0, kst_1, kstL_0, kstL_1, addk_I, pA_0, pA_s, pD_0, pD_s, wid_nil, wid_cons, rcv_c, putv_I, putv_L, List.length_cons, List.length_nil, List.set_cons_zero, List.set_cons_succ, not_false_eq_true, Nat.reduceMod, Nat.reduceDiv, Nat.reduceEqDiff, Nat.reduceLT, Nat.reduceLeDiff, Nat.reduceAdd, Nat.reduceSub, reduceIte, Nat.lt_irrefl, Nat.zero_ne_one, Nat.one_ne_zero, Nat.zero_add, List.nil_append, List.cons_append, Option.toList_some, Option.toList_none, forall_const, false_implies, true_implies, false_or, or_false, true_or, or_true, i_le, i_lt, i_eq, i_eq0, i_lt0, i_0le, i_0lt, i_le0, i_in1, i_cl, nI_add, pk_mul, pk_sub, i_div, i_rem, i_sh1, i_bit, i_or, i_and, i_andn, nt_le, nf_le, nt_lt, nf_lt, nt_eq, nf_eq, not_true_eq_false, and_self, and_false, false_and, eq_self, Bool.toNat_true, Bool.toNat_false, i_bool, i_bool1, Bool.false_eq_true, Bool.true_eq_false, reduceCtorEq, i_neg1, i_neg2, i_neg3, i_neg4, i_neg5, i_neg6, i_neg7, i_neg8, i_neg9, i_nega, i_negb, i_negc, i_max2, i_min2, wi_nil]
                  repeat (
                    first
                    | refine s_X9_day_0 ?_
                    | refine s_X9_day_5 ?_
                    | refine s_X9_day_13 ?_
                    | refine s_X9_day_39 ?_
                    | refine s_X9_day_40 ?_
                    | refine s_X9_day_47 ?_
                    | refine s_X9_day_57 ?_
                    | refine s_X9_day_66 ?_
                    | refine s_X9_day_79 ?_
                    | refine s_X9_day_88 ?_
                    | refine s_X9_day_91 ?_
                    | refine s_X9_day_103 ?_
                    | refine s_X9_day_107 ?_
                    | refine s_X9_day_117 ?_
                    | refine s_X9_day_121 ?_
                    simp (disch := omega) only [B_X9_day_0, wi_aload_n, wi_iload_n, wi_invokevirtual, cnt_8, B_X9_day_5, wi_if_eq, B_X9_day_13, wi_iand, wi_if_ne, wi_ior, wi_getfield, fldv_8_20, fds_8_20, wi_iconst, wi_iaload, wi_goto, cnt_40, aTy_40, aLn_40, arr_40, B_X9_day_39, B_X9_day_40, wi_istore_n, wi_ireturn, B_X9_day_47, fldv_8_10, fds_8_10, wi_bipush, B_X9_day_57, B_X9_day_66, wi_icmp_gt, wi_invokestatic, B_X9_day_79, wi_icmp_le, B_X9_day_88, B_X9_day_91, fldv_8_22, fds_8_22, wi_icmp_ne, B_X9_day_103, B_X9_day_107, B_X9_day_117, B_X9_day_121, no0, no1, nz1, nz2, nz3, nz4, nz5, nz7, nz8, Classical.not_not, bz0, bz1, wi_nil, ld_0, ld_s, isIv_I, isLv_L, isRv_R, true_and, and_true, lset_0, lset_1, lset_s, avw_I, avw_L, avw_R, clr_cons, clr_nil, kst_0, kst_1, kstL_0, kstL_1, addk_I, pA_0, pA_s, pD_0, pD_s, wid_nil, wid_cons, rcv_c, putv_I, putv_L, List.length_cons, List.length_nil, List.set_cons_zero, List.set_cons_succ, not_false_eq_true, Nat.reduceMod, Nat.reduceDiv, Nat.reduceEqDiff, Nat.reduceLT, Nat.reduceLeDiff, Nat.reduceAdd, Nat.reduceSub, reduceIte, Nat.lt_irrefl, Nat.zero_ne_one, Nat.one_ne_zero, Nat.zero_add, List.nil_append, List.cons_append, Option.toList_some, Option.toList_none, forall_const, false_implies, true_implies, false_or, or_false, true_or, or_true, i_le, i_lt, i_eq, i_eq0, i_lt0, i_0le, i_0lt, i_le0, i_in1, i_cl, nI_add, pk_mul, pk_sub, i_div, i_rem, i_sh1, i_bit, i_or, i_and, i_andn, nt_le, nf_le, nt_lt, nf_lt, nt_eq, nf_eq, not_true_eq_false, and_self, and_false, false_and, eq_self, Bool.toNat_true, Bool.toNat_false, i_bool, i_bool1, Bool.false_eq_true, Bool.true_eq_false, reduceCtorEq, i_neg1, i_neg2, i_neg3, i_neg4, i_neg5, i_neg6, i_neg7, i_neg8, i_neg9, i_nega, i_negb, i_negc, i_max2, i_min2])
                  refine c_passes (Or.inl rfl) (Y := Y) hmT hok (by decide) (by omega) (by omega) (by omega) (fun U m2 fa => ?_)
                  rw [psM_day2 hn5 ho2 c1 c2] at m2
                  try simp (disch := omega) only [no0, no1, nz1, nz2, nz3, nz4, nz5, nz7, nz8, Classical.not_not, bz0, bz1, wi_nil, ld_0, ld_s, isIv_I, isLv_L, isRv_R, true_and, and_true, lset_0, lset_1, lset_s, avw_I, avw_L, avw_R, clr_cons, clr_nil, kst_0, kst_1, kstL_0, kstL_1, addk_I, pA_0, pA_s, pD_0, pD_s, wid_nil, wid_cons, rcv_c, putv_I, putv_L, List.length_cons, List.length_nil, List.set_cons_zero, List.set_cons_succ, not_false_eq_true, Nat.reduceMod, Nat.reduceDiv, Nat.reduceEqDiff, Nat.reduceLT, Nat.reduceLeDiff, Nat.reduceAdd, Nat.reduceSub, reduceIte, Nat.lt_irrefl, Nat.zero_ne_one, Nat.one_ne_zero, Nat.zero_add, List.nil_append, List.cons_append, Option.toList_some, Option.toList_none, forall_const, false_implies, true_implies, false_or, or_false, true_or, or_true, i_le, i_lt, i_eq, i_eq0, i_lt0, i_0le, i_0lt, i_le0, i_in1, i_cl, nI_add, pk_mul, pk_sub, i_div, i_rem, i_sh1, i_bit, i_or, i_and, i_andn, nt_le, nf_le, nt_lt, nf_lt, nt_eq, nf_eq, not_true_eq_false, and_self, and_false, false_and, eq_self, Bool.toNat_true, Bool.toNat_false, i_bool, i_bool1, Bool.false_eq_true, Bool.true_eq_false, reduceCtorEq, i_neg1, i_neg2, i_neg3, i_neg4, i_neg5, i_neg6, i_neg7, i_neg8, i_neg9, i_nega, i_negb, i_negc, i_max2, i_min2, wi_nil]
                  repeat (
                    first
                    | refine s_X9_day_0 ?_
                    | refine s_X9_day_5 ?_
                    | refine s_X9_day_13 ?_
                    | refine s_X9_day_39 ?_
                    | refine s_X9_day_40 ?_
                    | refine s_X9_day_47 ?_
                    | refine s_X9_day_57 ?_
                    | refine s_X9_day_66 ?_
                    | refine s_X9_day_79 ?_
                    | refine s_X9_day_88 ?_
                    | refine s_X9_day_91 ?_
                    | refine s_X9_day_103 ?_
                    | refine s_X9_day_107 ?_
                    | refine s_X9_day_117 ?_
                    | refine s_X9_day_121 ?_
                    simp (disch := omega) only [B_X9_day_0, wi_aload_n, wi_iload_n, wi_invokevirtual, cnt_8, B_X9_day_5, wi_if_eq, B_X9_day_13, wi_iand, wi_if_ne, wi_ior, wi_getfield, fldv_8_20, fds_8_20, wi_iconst, wi_iaload, wi_goto, cnt_40, aTy_40, aLn_40, arr_40, B_X9_day_39, B_X9_day_40, wi_istore_n, wi_ireturn, B_X9_day_47, fldv_8_10, fds_8_10, wi_bipush, B_X9_day_57, B_X9_day_66, wi_icmp_gt, wi_invokestatic, B_X9_day_79, wi_icmp_le, B_X9_day_88, B_X9_day_91, fldv_8_22, fds_8_22, wi_icmp_ne, B_X9_day_103, B_X9_day_107, B_X9_day_117, B_X9_day_121, no0, no1, nz1, nz2, nz3, nz4, nz5, nz7, nz8, Classical.not_not, bz0, bz1, wi_nil, ld_0, ld_s, isIv_I, isLv_L, isRv_R, true_and, and_true, lset_0, lset_1, lset_s, avw_I, avw_L, avw_R, clr_cons, clr_nil, kst_0, kst_1, kstL_0, kstL_1, addk_I, pA_0, pA_s, pD_0, pD_s, wid_nil, wid_cons, rcv_c, putv_I, putv_L, List.length_cons, List.length_nil, List.set_cons_zero, List.set_cons_succ, not_false_eq_true, Nat.reduceMod, Nat.reduceDiv, Nat.reduceEqDiff, Nat.reduceLT, Nat.reduceLeDiff, Nat.reduceAdd, Nat.reduceSub, reduceIte, Nat.lt_irrefl, Nat.zero_ne_one, Nat.one_ne_zero, Nat.zero_add, List.nil_append, List.cons_append, Option.toList_some, Option.toList_none, forall_const, false_implies, true_implies, false_or, or_false, true_or, or_true, i_le, i_lt, i_eq, i_eq0, i_lt0, i_0le, i_0lt, i_le0, i_in1, i_cl, nI_add, pk_mul, pk_sub, i_div, i_rem, i_sh1, i_bit, i_or, i_and, i_andn, nt_le, nf_le, nt_lt, nf_lt, nt_eq, nf_eq, not_true_eq_false, and_self, and_false, false_and, eq_self, Bool.toNat_true, Bool.toNat_false, i_bool, i_bool1, Bool.false_eq_true, Bool.true_eq_false, reduceCtorEq, i_neg1, i_neg2, i_neg3, i_neg4, i_neg5, i_neg6, i_neg7, i_neg8, i_neg9, i_nega, i_negb, i_negc, i_max2, i_min2])
                  refine c_bits (by omega) ?_
                  try simp (disch := omega) only [no0, no1, nz1, nz2, nz3, nz4, nz5, nz7, nz8, Classical.not_not, bz0, bz1, wi_nil, ld_0, ld_s, isIv_I, isLv_L, isRv_R, true_and, and_true, lset_0, lset_1, lset_s, avw_I, avw_L, avw_R, clr_cons, clr_nil, kst_0, kst_1, kstL_0, kstL_1, addk_I, pA_0, pA_s, pD_0, pD_s, wid_nil, wid_cons, rcv_c, putv_I, putv_L, List.length_cons, List.length_nil, List.set_cons_zero, List.set_cons_succ, not_false_eq_true, Nat.reduceMod, Nat.reduceDiv, Nat.reduceEqDiff, Nat.reduceLT, Nat.reduceLeDiff, Nat.reduceAdd, Nat.reduceSub, reduceIte, Nat.lt_irrefl, Nat.zero_ne_one, Nat.one_ne_zero, Nat.zero_add, List.nil_append, List.cons_append, Option.toList_some, Option.toList_none, forall_const, false_implies, true_implies, false_or, or_false, true_or, or_true, i_le, i_lt, i_eq, i_eq0, i_lt0, i_0le, i_0lt, i_le0, i_in1, i_cl, nI_add, pk_mul, pk_sub, i_div, i_rem, i_sh1, i_bit, i_or, i_and, i_andn, nt_le, nf_le, nt_lt, nf_lt, nt_eq, nf_eq, not_true_eq_false, and_self, and_false, false_and, eq_self, Bool.toNat_true, Bool.toNat_false, i_bool, i_bool1, Bool.false_eq_true, Bool.true_eq_false, reduceCtorEq, i_neg1, i_neg2, i_neg3, i_neg4, i_neg5, i_neg6, i_neg7, i_neg8, i_neg9, i_nega, i_negb, i_negc, i_max2, i_min2, wi_nil]
                  repeat (
                    first
                    | refine s_X9_day_0 ?_
                    | refine s_X9_day_5 ?_
                    | refine s_X9_day_13 ?_
                    | refine s_X9_day_39 ?_
                    | refine s_X9_day_40 ?_
                    | refine s_X9_day_47 ?_
                    | refine s_X9_day_57 ?_
                    | refine s_X9_day_66 ?_
                    | refine s_X9_day_79 ?_
                    | refine s_X9_day_88 ?_
                    | refine s_X9_day_91 ?_
                    | refine s_X9_day_103 ?_
                    | refine s_X9_day_107 ?_
                    | refine s_X9_day_117 ?_
                    | refine s_X9_day_121 ?_
                    simp (disch := omega) only [B_X9_day_0, wi_aload_n, wi_iload_n, wi_invokevirtual, cnt_8, B_X9_day_5, wi_if_eq, B_X9_day_13, wi_iand, wi_if_ne, wi_ior, wi_getfield, fldv_8_20, fds_8_20, wi_iconst, wi_iaload, wi_goto, cnt_40, aTy_40, aLn_40, arr_40, B_X9_day_39, B_X9_day_40, wi_istore_n, wi_ireturn, B_X9_day_47, fldv_8_10, fds_8_10, wi_bipush, B_X9_day_57, B_X9_day_66, wi_icmp_gt, wi_invokestatic, B_X9_day_79, wi_icmp_le, B_X9_day_88, B_X9_day_91, fldv_8_22, fds_8_22, wi_icmp_ne, B_X9_day_103, B_X9_day_107, B_X9_day_117, B_X9_day_121, no0, no1, nz1, nz2, nz3, nz4, nz5, nz7, nz8, Classical.not_not, bz0, bz1, wi_nil, ld_0, ld_s, isIv_I, isLv_L, isRv_R, true_and, and_true, lset_0, lset_1, lset_s, avw_I, avw_L, avw_R, clr_cons, clr_nil, kst_0, kst_1, kstL_0, kstL_1, addk_I, pA_0, pA_s, pD_0, pD_s, wid_nil, wid_cons, rcv_c, putv_I, putv_L, List.length_cons, List.length_nil, List.set_cons_zero, List.set_cons_succ, not_false_eq_true, Nat.reduceMod, Nat.reduceDiv, Nat.reduceEqDiff, Nat.reduceLT, Nat.reduceLeDiff, Nat.reduceAdd, Nat.reduceSub, reduceIte, Nat.lt_irrefl, Nat.zero_ne_one, Nat.one_ne_zero, Nat.zero_add, List.nil_append, List.cons_append, Option.toList_some, Option.toList_none, forall_const, false_implies, true_implies, false_or, or_false, true_or, or_true, i_le, i_lt, i_eq, i_eq0, i_lt0, i_0le, i_0lt, i_le0, i_in1, i_cl, nI_add, pk_mul, pk_sub, i_div, i_rem, i_sh1, i_bit, i_or, i_and, i_andn, nt_le, nf_le, nt_lt, nf_lt, nt_eq, nf_eq, not_true_eq_false, and_self, and_false, false_and, eq_self, Bool.toNat_true, Bool.toNat_false, i_bool, i_bool1, Bool.false_eq_true, Bool.true_eq_false, reduceCtorEq, i_neg1, i_neg2, i_neg3, i_neg4, i_neg5, i_neg6, i_neg7, i_neg8, i_neg9, i_nega, i_negb, i_negc, i_max2, i_min2])
                  refine pm (rr_acts h h3 (fs_26.pn.trans fx) (((fr_sA rfl).trans (fr_sI rfl)).trans (f3_fa fa)) x1 ?_ ?_ ?_ (ac_app hac (by omega) (by rw [hY]; exact k1)))
                  · rw [nwY_app, hY, k2]; exact x2
                  · exact mlg_step hn0 hlT (by rw [hY]; exact hmT.2) ((fa.1 8 0 22).trans rfl) ((fa.2.2 42 0 (by decide)).trans rfl)
                  · rw [nwY_app, hY, k2]; exact m2
        · refine x_entry (ls2 := [aR 7 0, aI (nI s), aI (nI o)]) (Nat.le_of_ble_eq_true rfl) pl_8 rfl (Nat.le_of_ble_eq_true rfl) ?_
          try simp (disch := omega) only [no0, no1, nz1, nz2, nz3, nz4, nz5, nz7, nz8, Classical.not_not, bz0, bz1, wi_nil, ld_0, ld_s, isIv_I, isLv_L, isRv_R, true_and, and_true, lset_0, lset_1, lset_s, avw_I, avw_L, avw_R, clr_cons, clr_nil, kst_0, kst_1, kstL_0, kstL_1, addk_I, pA_0, pA_s, pD_0, pD_s, wid_nil, wid_cons, rcv_c, putv_I, putv_L, List.length_cons, List.length_nil, List.set_cons_zero, List.set_cons_succ, not_false_eq_true, Nat.reduceMod, Nat.reduceDiv, Nat.reduceEqDiff, Nat.reduceLT, Nat.reduceLeDiff, Nat.reduceAdd, Nat.reduceSub, reduceIte, Nat.lt_irrefl, Nat.zero_ne_one, Nat.one_ne_zero, Nat.zero_add, List.nil_append, List.cons_append, Option.toList_some, Option.toList_none, forall_const, false_implies, true_implies, false_or, or_false, true_or, or_true, i_le, i_lt, i_eq, i_eq0, i_lt0, i_0le, i_0lt, i_le0, i_in1, i_cl, nI_add, pk_mul, pk_sub, i_div, i_rem, i_sh1, i_bit, i_or, i_and, i_andn, nt_le, nf_le, nt_lt, nf_lt, nt_eq, nf_eq, not_true_eq_false, and_self, and_false, false_and, eq_self, Bool.toNat_true, Bool.toNat_false, i_bool, i_bool1, Bool.false_eq_true, Bool.true_eq_false, reduceCtorEq, i_neg1, i_neg2, i_neg3, i_neg4, i_neg5, i_neg6, i_neg7, i_neg8, i_neg9, i_nega, i_negb, i_negc, i_max2, i_min2, wi_nil]
          repeat (
            first
            | refine s_X8_day_0 ?_
            | refine s_X8_day_5 ?_
            | refine s_X8_day_13 ?_
            | refine s_X8_day_36 ?_
            | refine s_X8_day_38 ?_
            | refine s_X8_day_51 ?_
            | refine s_X8_day_58 ?_
            | refine s_X8_day_74 ?_
            | refine s_X8_day_84 ?_
            | refine s_X8_day_87 ?_
            | refine s_X8_day_95 ?_
            | refine s_X8_day_101 ?_
            | refine s_X8_day_108 ?_
            | refine s_X8_day_111 ?_
            | refine s_X8_day_115 ?_
            simp (disch := omega) only [B_X8_day_0, wi_aload_n, wi_iload_n, wi_invokevirtual, cnt_7, B_X8_day_5, wi_if_eq, B_X8_day_13, wi_iand, wi_if_ne, wi_ior, wi_getfield, fldv_7_3, fds_7_3, fldv_6_11, fds_6_11, cnt_6, B_X8_day_36, wi_iconst, wi_ireturn, B_X8_day_38, fldv_6_7, fds_6_7, wi_bipush, B_X8_day_51, B_X8_day_58, wi_iaload, fldv_6_9, fds_6_9, wi_icmp_gt, wi_invokestatic, B_X8_day_74, fldv_6_10, fds_6_10, wi_icmp_le, B_X8_day_84, B_X8_day_87, fldv_7_6, fds_7_6, cnt_0, B_X8_day_95, B_X8_day_101, B_X8_day_108, B_X8_day_111, B_X8_day_115, no0, no1, nz1, nz2, nz3, nz4, nz5, nz7, nz8, Classical.not_not, bz0, bz1, wi_nil, ld_0, ld_s, isIv_I, isLv_L, isRv_R, true_and, and_true, lset_0, lset_1, lset_s, avw_I, avw_L, avw_R, clr_cons, clr_nil, kst_0, kst_1, kstL_0, kstL_1, addk_I, pA_0, pA_s, pD_0, pD_s, wid_nil, wid_cons, rcv_c, putv_I, putv_L, List.length_cons, List.length_nil, List.set_cons_zero, List.set_cons_succ, not_false_eq_true, Nat.reduceMod, Nat.reduceDiv, Nat.reduceEqDiff, Nat.reduceLT, Nat.reduceLeDiff, Nat.reduceAdd, Nat.reduceSub, reduceIte, Nat.lt_irrefl, Nat.zero_ne_one, Nat.one_ne_zero, Nat.zero_add, List.nil_append, List.cons_append, Option.toList_some, Option.toList_none, forall_const, false_implies, true_implies, false_or, or_false, true_or, or_true, i_le, i_lt, i_eq, i_eq0, i_lt0, i_0le, i_0lt, i_le0, i_in1, i_cl, nI_add, pk_mul, pk_sub, i_div, i_rem, i_sh1, i_bit, i_or, i_and, i_andn, nt_le, nf_le, nt_lt, nf_lt, nt_eq, nf_eq, not_true_eq_false, and_self, and_false, false_and, eq_self, Bool.toNat_true, Bool.toNat_false, i_bool, i_bool1, Bool.false_eq_true, Bool.true_eq_false, reduceCtorEq, i_neg1, i_neg2, i_neg3, i_neg4, i_neg5, i_neg6, i_neg7, i_neg8, i_neg9, i_nega, i_negb, i_negc, i_max2, i_min2])
          refine c_isSet hy hn5 ?_
          try simp (disch := omega) only [no0, no1, nz1, nz2, nz3, nz4, nz5, nz7, nz8, Classical.not_not, bz0, bz1, wi_nil, ld_0, ld_s, isIv_I, isLv_L, isRv_R, true_and, and_true, lset_0, lset_1, lset_s, avw_I, avw_L, avw_R, clr_cons, clr_nil, kst_0, kst_1, kstL_0, kstL_1, addk_I, pA_0, pA_s, pD_0, pD_s, wid_nil, wid_cons, rcv_c, putv_I, putv_L, List.length_cons, List.length_nil, List.set_cons_zero, List.set_cons_succ, not_false_eq_true, Nat.reduceMod, Nat.reduceDiv, Nat.reduceEqDiff, Nat.reduceLT, Nat.reduceLeDiff, Nat.reduceAdd, Nat.reduceSub, reduceIte, Nat.lt_irrefl, Nat.zero_ne_one, Nat.one_ne_zero, Nat.zero_add, List.nil_append, List.cons_append, Option.toList_some, Option.toList_none, forall_const, false_implies, true_implies, false_or, or_false, true_or, or_true, i_le, i_lt, i_eq, i_eq0, i_lt0, i_0le, i_0lt, i_le0, i_in1, i_cl, nI_add, pk_mul, pk_sub, i_div, i_rem, i_sh1, i_bit, i_or, i_and, i_andn, nt_le, nf_le, nt_lt, nf_lt, nt_eq, nf_eq, not_true_eq_false, and_self, and_false, false_and, eq_self, Bool.toNat_true, Bool.toNat_false, i_bool, i_bool1, Bool.false_eq_true, Bool.true_eq_false, reduceCtorEq, i_neg1, i_neg2, i_neg3, i_neg4, i_neg5, i_neg6, i_neg7, i_neg8, i_neg9, i_nega, i_negb, i_negc, i_max2, i_min2, hs, wi_nil]
          repeat (
            first
            | refine s_X8_day_0 ?_
            | refine s_X8_day_5 ?_
            | refine s_X8_day_13 ?_
            | refine s_X8_day_36 ?_
            | refine s_X8_day_38 ?_
            | refine s_X8_day_51 ?_
            | refine s_X8_day_58 ?_
            | refine s_X8_day_74 ?_
            | refine s_X8_day_84 ?_
            | refine s_X8_day_87 ?_
            | refine s_X8_day_95 ?_
            | refine s_X8_day_101 ?_
            | refine s_X8_day_108 ?_
            | refine s_X8_day_111 ?_
            | refine s_X8_day_115 ?_
            simp (disch := omega) only [B_X8_day_0, wi_aload_n, wi_iload_n, wi_invokevirtual, cnt_7, B_X8_day_5, wi_if_eq, B_X8_day_13, wi_iand, wi_if_ne, wi_ior, wi_getfield, fldv_7_3, fds_7_3, fldv_6_11, fds_6_11, cnt_6, B_X8_day_36, wi_iconst, wi_ireturn, B_X8_day_38, fldv_6_7, fds_6_7, wi_bipush, B_X8_day_51, B_X8_day_58, wi_iaload, fldv_6_9, fds_6_9, wi_icmp_gt, wi_invokestatic, B_X8_day_74, fldv_6_10, fds_6_10, wi_icmp_le, B_X8_day_84, B_X8_day_87, fldv_7_6, fds_7_6, cnt_0, B_X8_day_95, B_X8_day_101, B_X8_day_108, B_X8_day_111, B_X8_day_115, no0, no1, nz1, nz2, nz3, nz4, nz5, nz7, nz8, Classical.not_not, bz0, bz1, wi_nil, ld_0, ld_s, isIv_I, isLv_L, isRv_R, true_and, and_true, lset_0, lset_1, lset_s, avw_I, avw_L, avw_R, clr_cons, clr_nil, kst_0, kst_1, kstL_0, kstL_1, addk_I, pA_0, pA_s, pD_0, pD_s, wid_nil, wid_cons, rcv_c, putv_I, putv_L, List.length_cons, List.length_nil, List.set_cons_zero, List.set_cons_succ, not_false_eq_true, Nat.reduceMod, Nat.reduceDiv, Nat.reduceEqDiff, Nat.reduceLT, Nat.reduceLeDiff, Nat.reduceAdd, Nat.reduceSub, reduceIte, Nat.lt_irrefl, Nat.zero_ne_one, Nat.one_ne_zero, Nat.zero_add, List.nil_append, List.cons_append, Option.toList_some, Option.toList_none, forall_const, false_implies, true_implies, false_or, or_false, true_or, or_true, i_le, i_lt, i_eq, i_eq0, i_lt0, i_0le, i_0lt, i_le0, i_in1, i_cl, nI_add, pk_mul, pk_sub, i_div, i_rem, i_sh1, i_bit, i_or, i_and, i_andn, nt_le, nf_le, nt_lt, nf_lt, nt_eq, nf_eq, not_true_eq_false, and_self, and_false, false_and, eq_self, Bool.toNat_true, Bool.toNat_false, i_bool, i_bool1, Bool.false_eq_true, Bool.true_eq_false, reduceCtorEq, i_neg1, i_neg2, i_neg3, i_neg4, i_neg5, i_neg6, i_neg7, i_neg8, i_neg9, i_nega, i_negb, i_negc, i_max2, i_min2, hs])
          refine c_isSet hy hn5 ?_
          try simp (disch := omega) only [no0, no1, nz1, nz2, nz3, nz4, nz5, nz7, nz8, Classical.not_not, bz0, bz1, wi_nil, ld_0, ld_s, isIv_I, isLv_L, isRv_R, true_and, and_true, lset_0, lset_1, lset_s, avw_I, avw_L, avw_R, clr_cons, clr_nil, kst_0, kst_1, kstL_0, kstL_1, addk_I, pA_0, pA_s, pD_0, pD_s, wid_nil, wid_cons, rcv_c, putv_I, putv_L, List.length_cons, List.length_nil, List.set_cons_zero, List.set_cons_succ, not_false_eq_true, Nat.reduceMod, Nat.reduceDiv, Nat.reduceEqDiff, Nat.reduceLT, Nat.reduceLeDiff, Nat.reduceAdd, Nat.reduceSub, reduceIte, Nat.lt_irrefl, Nat.zero_ne_one, Nat.one_ne_zero, Nat.zero_add, List.nil_append, List.cons_append, Option.toList_some, Option.toList_none, forall_const, false_implies, true_implies, false_or, or_false, true_or, or_true, i_le, i_lt, i_eq, i_eq0, i_lt0, i_0le, i_0lt, i_le0, i_in1, i_cl, nI_add, pk_mul, pk_sub, i_div, i_rem, i_sh1, i_bit, i_or, i_and, i_andn, nt_le, nf_le, nt_lt, nf_lt, nt_eq, nf_eq, not_true_eq_false, and_self, and_false, false_and, eq_self, Bool.toNat_true, Bool.toNat_false, i_bool, i_bool1, Bool.false_eq_true, Bool.true_eq_false, reduceCtorEq, i_neg1, i_neg2, i_neg3, i_neg4, i_neg5, i_neg6, i_neg7, i_neg8, i_neg9, i_nega, i_negb, i_negc, i_max2, i_min2, hoo, (y_gone hy), wi_nil]
          repeat (
            first
            | refine s_X8_day_0 ?_
            | refine s_X8_day_5 ?_
            | refine s_X8_day_13 ?_
            | refine s_X8_day_36 ?_
            | refine s_X8_day_38 ?_
            | refine s_X8_day_51 ?_
            | refine s_X8_day_58 ?_
            | refine s_X8_day_74 ?_
            | refine s_X8_day_84 ?_
            | refine s_X8_day_87 ?_
            | refine s_X8_day_95 ?_
            | refine s_X8_day_101 ?_
            | refine s_X8_day_108 ?_
            | refine s_X8_day_111 ?_
            | refine s_X8_day_115 ?_
            simp (disch := omega) only [B_X8_day_0, wi_aload_n, wi_iload_n, wi_invokevirtual, cnt_7, B_X8_day_5, wi_if_eq, B_X8_day_13, wi_iand, wi_if_ne, wi_ior, wi_getfield, fldv_7_3, fds_7_3, fldv_6_11, fds_6_11, cnt_6, B_X8_day_36, wi_iconst, wi_ireturn, B_X8_day_38, fldv_6_7, fds_6_7, wi_bipush, B_X8_day_51, B_X8_day_58, wi_iaload, fldv_6_9, fds_6_9, wi_icmp_gt, wi_invokestatic, B_X8_day_74, fldv_6_10, fds_6_10, wi_icmp_le, B_X8_day_84, B_X8_day_87, fldv_7_6, fds_7_6, cnt_0, B_X8_day_95, B_X8_day_101, B_X8_day_108, B_X8_day_111, B_X8_day_115, no0, no1, nz1, nz2, nz3, nz4, nz5, nz7, nz8, Classical.not_not, bz0, bz1, wi_nil, ld_0, ld_s, isIv_I, isLv_L, isRv_R, true_and, and_true, lset_0, lset_1, lset_s, avw_I, avw_L, avw_R, clr_cons, clr_nil, kst_0, kst_1, kstL_0, kstL_1, addk_I, pA_0, pA_s, pD_0, pD_s, wid_nil, wid_cons, rcv_c, putv_I, putv_L, List.length_cons, List.length_nil, List.set_cons_zero, List.set_cons_succ, not_false_eq_true, Nat.reduceMod, Nat.reduceDiv, Nat.reduceEqDiff, Nat.reduceLT, Nat.reduceLeDiff, Nat.reduceAdd, Nat.reduceSub, reduceIte, Nat.lt_irrefl, Nat.zero_ne_one, Nat.one_ne_zero, Nat.zero_add, List.nil_append, List.cons_append, Option.toList_some, Option.toList_none, forall_const, false_implies, true_implies, false_or, or_false, true_or, or_true, i_le, i_lt, i_eq, i_eq0, i_lt0, i_0le, i_0lt, i_le0, i_in1, i_cl, nI_add, pk_mul, pk_sub, i_div, i_rem, i_sh1, i_bit, i_or, i_and, i_andn, nt_le, nf_le, nt_lt, nf_lt, nt_eq, nf_eq, not_true_eq_false, and_self, and_false, false_and, eq_self, Bool.toNat_true, Bool.toNat_false, i_bool, i_bool1, Bool.false_eq_true, Bool.true_eq_false, reduceCtorEq, i_neg1, i_neg2, i_neg3, i_neg4, i_neg5, i_neg6, i_neg7, i_neg8, i_neg9, i_nega, i_negb, i_negc, i_max2, i_min2, hoo, (y_gone hy)])
          refine px ?_
          refine x_entry (ls2 := [aR 8 0, aI (nI s), aI (nI o), aU]) (Nat.le_of_ble_eq_true rfl) pl_9 rfl (Nat.le_of_ble_eq_true rfl) ?_
          try simp (disch := omega) only [no0, no1, nz1, nz2, nz3, nz4, nz5, nz7, nz8, Classical.not_not, bz0, bz1, wi_nil, ld_0, ld_s, isIv_I, isLv_L, isRv_R, true_and, and_true, lset_0, lset_1, lset_s, avw_I, avw_L, avw_R, clr_cons, clr_nil, kst_0, kst_1, kstL_0, kstL_1, addk_I, pA_0, pA_s, pD_0, pD_s, wid_nil, wid_cons, rcv_c, putv_I, putv_L, List.length_cons, List.length_nil, List.set_cons_zero, List.set_cons_succ, not_false_eq_true, Nat.reduceMod, Nat.reduceDiv, Nat.reduceEqDiff, Nat.reduceLT, Nat.reduceLeDiff, Nat.reduceAdd, Nat.reduceSub, reduceIte, Nat.lt_irrefl, Nat.zero_ne_one, Nat.one_ne_zero, Nat.zero_add, List.nil_append, List.cons_append, Option.toList_some, Option.toList_none, forall_const, false_implies, true_implies, false_or, or_false, true_or, or_true, i_le, i_lt, i_eq, i_eq0, i_lt0, i_0le, i_0lt, i_le0, i_in1, i_cl, nI_add, pk_mul, pk_sub, i_div, i_rem, i_sh1, i_bit, i_or, i_and, i_andn, nt_le, nf_le, nt_lt, nf_lt, nt_eq, nf_eq, not_true_eq_false, and_self, and_false, false_and, eq_self, Bool.toNat_true, Bool.toNat_false, i_bool, i_bool1, Bool.false_eq_true, Bool.true_eq_false, reduceCtorEq, i_neg1, i_neg2, i_neg3, i_neg4, i_neg5, i_neg6, i_neg7, i_neg8, i_neg9, i_nega, i_negb, i_negc, i_max2, i_min2, wi_nil]
          repeat (
            first
            | refine s_X9_day_0 ?_
            | refine s_X9_day_5 ?_
            | refine s_X9_day_13 ?_
            | refine s_X9_day_39 ?_
            | refine s_X9_day_40 ?_
            | refine s_X9_day_47 ?_
            | refine s_X9_day_57 ?_
            | refine s_X9_day_66 ?_
            | refine s_X9_day_79 ?_
            | refine s_X9_day_88 ?_
            | refine s_X9_day_91 ?_
            | refine s_X9_day_103 ?_
            | refine s_X9_day_107 ?_
            | refine s_X9_day_117 ?_
            | refine s_X9_day_121 ?_
            simp (disch := omega) only [B_X9_day_0, wi_aload_n, wi_iload_n, wi_invokevirtual, cnt_8, B_X9_day_5, wi_if_eq, B_X9_day_13, wi_iand, wi_if_ne, wi_ior, wi_getfield, fldv_8_20, fds_8_20, wi_iconst, wi_iaload, wi_goto, cnt_40, aTy_40, aLn_40, arr_40, B_X9_day_39, B_X9_day_40, wi_istore_n, wi_ireturn, B_X9_day_47, fldv_8_10, fds_8_10, wi_bipush, B_X9_day_57, B_X9_day_66, wi_icmp_gt, wi_invokestatic, B_X9_day_79, wi_icmp_le, B_X9_day_88, B_X9_day_91, fldv_8_22, fds_8_22, wi_icmp_ne, B_X9_day_103, B_X9_day_107, B_X9_day_117, B_X9_day_121, no0, no1, nz1, nz2, nz3, nz4, nz5, nz7, nz8, Classical.not_not, bz0, bz1, wi_nil, ld_0, ld_s, isIv_I, isLv_L, isRv_R, true_and, and_true, lset_0, lset_1, lset_s, avw_I, avw_L, avw_R, clr_cons, clr_nil, kst_0, kst_1, kstL_0, kstL_1, addk_I, pA_0, pA_s, pD_0, pD_s, wid_nil, wid_cons, rcv_c, putv_I, putv_L, List.length_cons, List.length_nil, List.set_cons_zero, List.set_cons_succ, not_false_eq_true, Nat.reduceMod, Nat.reduceDiv, Nat.reduceEqDiff, Nat.reduceLT, Nat.reduceLeDiff, Nat.reduceAdd, Nat.reduceSub, reduceIte, Nat.lt_irrefl, Nat.zero_ne_one, Nat.one_ne_zero, Nat.zero_add, List.nil_append, List.cons_append, Option.toList_some, Option.toList_none, forall_const, false_implies, true_implies, false_or, or_false, true_or, or_true, i_le, i_lt, i_eq, i_eq0, i_lt0, i_0le, i_0lt, i_le0, i_in1, i_cl, nI_add, pk_mul, pk_sub, i_div, i_rem, i_sh1, i_bit, i_or, i_and, i_andn, nt_le, nf_le, nt_lt, nf_lt, nt_eq, nf_eq, not_true_eq_false, and_self, and_false, false_and, eq_self, Bool.toNat_true, Bool.toNat_false, i_bool, i_bool1, Bool.false_eq_true, Bool.true_eq_false, reduceCtorEq, i_neg1, i_neg2, i_neg3, i_neg4, i_neg5, i_neg6, i_neg7, i_neg8, i_neg9, i_nega, i_negb, i_negc, i_max2, i_min2])
          refine c_mSet hm hn5 ?_
          try simp (disch := omega) only [no0, no1, nz1, nz2, nz3, nz4, nz5, nz7, nz8, Classical.not_not, bz0, bz1, wi_nil, ld_0, ld_s, isIv_I, isLv_L, isRv_R, true_and, and_true, lset_0, lset_1, lset_s, avw_I, avw_L, avw_R, clr_cons, clr_nil, kst_0, kst_1, kstL_0, kstL_1, addk_I, pA_0, pA_s, pD_0, pD_s, wid_nil, wid_cons, rcv_c, putv_I, putv_L, List.length_cons, List.length_nil, List.set_cons_zero, List.set_cons_succ, not_false_eq_true, Nat.reduceMod, Nat.reduceDiv, Nat.reduceEqDiff, Nat.reduceLT, Nat.reduceLeDiff, Nat.reduceAdd, Nat.reduceSub, reduceIte, Nat.lt_irrefl, Nat.zero_ne_one, Nat.one_ne_zero, Nat.zero_add, List.nil_append, List.cons_append, Option.toList_some, Option.toList_none, forall_const, false_implies, true_implies, false_or, or_false, true_or, or_true, i_le, i_lt, i_eq, i_eq0, i_lt0, i_0le, i_0lt, i_le0, i_in1, i_cl, nI_add, pk_mul, pk_sub, i_div, i_rem, i_sh1, i_bit, i_or, i_and, i_andn, nt_le, nf_le, nt_lt, nf_lt, nt_eq, nf_eq, not_true_eq_false, and_self, and_false, false_and, eq_self, Bool.toNat_true, Bool.toNat_false, i_bool, i_bool1, Bool.false_eq_true, Bool.true_eq_false, reduceCtorEq, i_neg1, i_neg2, i_neg3, i_neg4, i_neg5, i_neg6, i_neg7, i_neg8, i_neg9, i_nega, i_negb, i_negc, i_max2, i_min2, hs, wi_nil]
          repeat (
            first
            | refine s_X9_day_0 ?_
            | refine s_X9_day_5 ?_
            | refine s_X9_day_13 ?_
            | refine s_X9_day_39 ?_
            | refine s_X9_day_40 ?_
            | refine s_X9_day_47 ?_
            | refine s_X9_day_57 ?_
            | refine s_X9_day_66 ?_
            | refine s_X9_day_79 ?_
            | refine s_X9_day_88 ?_
            | refine s_X9_day_91 ?_
            | refine s_X9_day_103 ?_
            | refine s_X9_day_107 ?_
            | refine s_X9_day_117 ?_
            | refine s_X9_day_121 ?_
            simp (disch := omega) only [B_X9_day_0, wi_aload_n, wi_iload_n, wi_invokevirtual, cnt_8, B_X9_day_5, wi_if_eq, B_X9_day_13, wi_iand, wi_if_ne, wi_ior, wi_getfield, fldv_8_20, fds_8_20, wi_iconst, wi_iaload, wi_goto, cnt_40, aTy_40, aLn_40, arr_40, B_X9_day_39, B_X9_day_40, wi_istore_n, wi_ireturn, B_X9_day_47, fldv_8_10, fds_8_10, wi_bipush, B_X9_day_57, B_X9_day_66, wi_icmp_gt, wi_invokestatic, B_X9_day_79, wi_icmp_le, B_X9_day_88, B_X9_day_91, fldv_8_22, fds_8_22, wi_icmp_ne, B_X9_day_103, B_X9_day_107, B_X9_day_117, B_X9_day_121, no0, no1, nz1, nz2, nz3, nz4, nz5, nz7, nz8, Classical.not_not, bz0, bz1, wi_nil, ld_0, ld_s, isIv_I, isLv_L, isRv_R, true_and, and_true, lset_0, lset_1, lset_s, avw_I, avw_L, avw_R, clr_cons, clr_nil, kst_0, kst_1, kstL_0, kstL_1, addk_I, pA_0, pA_s, pD_0, pD_s, wid_nil, wid_cons, rcv_c, putv_I, putv_L, List.length_cons, List.length_nil, List.set_cons_zero, List.set_cons_succ, not_false_eq_true, Nat.reduceMod, Nat.reduceDiv, Nat.reduceEqDiff, Nat.reduceLT, Nat.reduceLeDiff, Nat.reduceAdd, Nat.reduceSub, reduceIte, Nat.lt_irrefl, Nat.zero_ne_one, Nat.one_ne_zero, Nat.zero_add, List.nil_append, List.cons_append, Option.toList_some, Option.toList_none, forall_const, false_implies, true_implies, false_or, or_false, true_or, or_true, i_le, i_lt, i_eq, i_eq0, i_lt0, i_0le, i_0lt, i_le0, i_in1, i_cl, nI_add, pk_mul, pk_sub, i_div, i_rem, i_sh1, i_bit, i_or, i_and, i_andn, nt_le, nf_le, nt_lt, nf_lt, nt_eq, nf_eq, not_true_eq_false, and_self, and_false, false_and, eq_self, Bool.toNat_true, Bool.toNat_false, i_bool, i_bool1, Bool.false_eq_true, Bool.true_eq_false, reduceCtorEq, i_neg1, i_neg2, i_neg3, i_neg4, i_neg5, i_neg6, i_neg7, i_neg8, i_neg9, i_nega, i_negb, i_negc, i_max2, i_min2, hs])
          refine c_mSet hm hn5 ?_
          try simp (disch := omega) only [no0, no1, nz1, nz2, nz3, nz4, nz5, nz7, nz8, Classical.not_not, bz0, bz1, wi_nil, ld_0, ld_s, isIv_I, isLv_L, isRv_R, true_and, and_true, lset_0, lset_1, lset_s, avw_I, avw_L, avw_R, clr_cons, clr_nil, kst_0, kst_1, kstL_0, kstL_1, addk_I, pA_0, pA_s, pD_0, pD_s, wid_nil, wid_cons, rcv_c, putv_I, putv_L, List.length_cons, List.length_nil, List.set_cons_zero, List.set_cons_succ, not_false_eq_true, Nat.reduceMod, Nat.reduceDiv, Nat.reduceEqDiff, Nat.reduceLT, Nat.reduceLeDiff, Nat.reduceAdd, Nat.reduceSub, reduceIte, Nat.lt_irrefl, Nat.zero_ne_one, Nat.one_ne_zero, Nat.zero_add, List.nil_append, List.cons_append, Option.toList_some, Option.toList_none, forall_const, false_implies, true_implies, false_or, or_false, true_or, or_true, i_le, i_lt, i_eq, i_eq0, i_lt0, i_0le, i_0lt, i_le0, i_in1, i_cl, nI_add, pk_mul, pk_sub, i_div, i_rem, i_sh1, i_bit, i_or, i_and, i_andn, nt_le, nf_le, nt_lt, nf_lt, nt_eq, nf_eq, not_true_eq_false, and_self, and_false, false_and, eq_self, Bool.toNat_true, Bool.toNat_false, i_bool, i_bool1, Bool.false_eq_true, Bool.true_eq_false, reduceCtorEq, i_neg1, i_neg2, i_neg3, i_neg4, i_neg5, i_neg6, i_neg7, i_neg8, i_neg9, i_nega, i_negb, i_negc, i_max2, i_min2, hoo, (m_gone hm), wi_nil]
          repeat (
            first
            | refine s_X9_day_0 ?_
            | refine s_X9_day_5 ?_
            | refine s_X9_day_13 ?_
            | refine s_X9_day_39 ?_
            | refine s_X9_day_40 ?_
            | refine s_X9_day_47 ?_
            | refine s_X9_day_57 ?_
            | refine s_X9_day_66 ?_
            | refine s_X9_day_79 ?_
            | refine s_X9_day_88 ?_
            | refine s_X9_day_91 ?_
            | refine s_X9_day_103 ?_
            | refine s_X9_day_107 ?_
            | refine s_X9_day_117 ?_
            | refine s_X9_day_121 ?_
            simp (disch := omega) only [B_X9_day_0, wi_aload_n, wi_iload_n, wi_invokevirtual, cnt_8, B_X9_day_5, wi_if_eq, B_X9_day_13, wi_iand, wi_if_ne, wi_ior, wi_getfield, fldv_8_20, fds_8_20, wi_iconst, wi_iaload, wi_goto, cnt_40, aTy_40, aLn_40, arr_40, B_X9_day_39, B_X9_day_40, wi_istore_n, wi_ireturn, B_X9_day_47, fldv_8_10, fds_8_10, wi_bipush, B_X9_day_57, B_X9_day_66, wi_icmp_gt, wi_invokestatic, B_X9_day_79, wi_icmp_le, B_X9_day_88, B_X9_day_91, fldv_8_22, fds_8_22, wi_icmp_ne, B_X9_day_103, B_X9_day_107, B_X9_day_117, B_X9_day_121, no0, no1, nz1, nz2, nz3, nz4, nz5, nz7, nz8, Classical.not_not, bz0, bz1, wi_nil, ld_0, ld_s, isIv_I, isLv_L, isRv_R, true_and, and_true, lset_0, lset_1, lset_s, avw_I, avw_L, avw_R, clr_cons, clr_nil, kst_0, kst_1, kstL_0, kstL_1, addk_I, pA_0, pA_s, pD_0, pD_s, wid_nil, wid_cons, rcv_c, putv_I, putv_L, List.length_cons, List.length_nil, List.set_cons_zero, List.set_cons_succ, not_false_eq_true, Nat.reduceMod, Nat.reduceDiv, Nat.reduceEqDiff, Nat.reduceLT, Nat.reduceLeDiff, Nat.reduceAdd, Nat.reduceSub, reduceIte, Nat.lt_irrefl, Nat.zero_ne_one, Nat.one_ne_zero, Nat.zero_add, List.nil_append, List.cons_append, Option.toList_some, Option.toList_none, forall_const, false_implies, true_implies, false_or, or_false, true_or, or_true, i_le, i_lt, i_eq, i_eq0, i_lt0, i_0le, i_0lt, i_le0, i_in1, i_cl, nI_add, pk_mul, pk_sub, i_div, i_rem, i_sh1, i_bit, i_or, i_and, i_andn, nt_le, nf_le, nt_lt, nf_lt, nt_eq, nf_eq, not_true_eq_false, and_self, and_false, false_and, eq_self, Bool.toNat_true, Bool.toNat_false, i_bool, i_bool1, Bool.false_eq_true, Bool.true_eq_false, reduceCtorEq, i_neg1, i_neg2, i_neg3, i_neg4, i_neg5, i_neg6, i_neg7, i_neg8, i_neg9, i_nega, i_negb, i_negc, i_max2, i_min2, hoo, (m_gone hm)])
          exact pm h
      · refine x_entry (ls2 := [aR 7 0, aI (nI s), aI (nI o)]) (Nat.le_of_ble_eq_true rfl) pl_8 rfl (Nat.le_of_ble_eq_true rfl) ?_
        try simp (disch := omega) only [no0, no1, nz1, nz2, nz3, nz4, nz5, nz7, nz8, Classical.not_not, bz0, bz1, wi_nil, ld_0, ld_s, isIv_I, isLv_L, isRv_R, true_and, and_true, lset_0, lset_1, lset_s, avw_I, avw_L, avw_R, clr_cons, clr_nil, kst_0, kst_1, kstL_0, kstL_1, addk_I, pA_0, pA_s, pD_0, pD_s, wid_nil, wid_cons, rcv_c, putv_I, putv_L, List.length_cons, List.length_nil, List.set_cons_zero, List.set_cons_succ, not_false_eq_true, Nat.reduceMod, Nat.reduceDiv, Nat.reduceEqDiff, Nat.reduceLT, Nat.reduceLeDiff, Nat.reduceAdd, Nat.reduceSub, reduceIte, Nat.lt_irrefl, Nat.zero_ne_one, Nat.one_ne_zero, Nat.zero_add, List.nil_append, List.cons_append, Option.toList_some, Option.toList_none, forall_const, false_implies, true_implies, false_or, or_false, true_or, or_true, i_le, i_lt, i_eq, i_eq0, i_lt0, i_0le, i_0lt, i_le0, i_in1, i_cl, nI_add, pk_mul, pk_sub, i_div, i_rem, i_sh1, i_bit, i_or, i_and, i_andn, nt_le, nf_le, nt_lt, nf_lt, nt_eq, nf_eq, not_true_eq_false, and_self, and_false, false_and, eq_self, Bool.toNat_true, Bool.toNat_false, i_bool, i_bool1, Bool.false_eq_true, Bool.true_eq_false, reduceCtorEq, i_neg1, i_neg2, i_neg3, i_neg4, i_neg5, i_neg6, i_neg7, i_neg8, i_neg9, i_nega, i_negb, i_negc, i_max2, i_min2, wi_nil]
        repeat (
          first
          | refine s_X8_day_0 ?_
          | refine s_X8_day_5 ?_
          | refine s_X8_day_13 ?_
          | refine s_X8_day_36 ?_
          | refine s_X8_day_38 ?_
          | refine s_X8_day_51 ?_
          | refine s_X8_day_58 ?_
          | refine s_X8_day_74 ?_
          | refine s_X8_day_84 ?_
          | refine s_X8_day_87 ?_
          | refine s_X8_day_95 ?_
          | refine s_X8_day_101 ?_
          | refine s_X8_day_108 ?_
          | refine s_X8_day_111 ?_
          | refine s_X8_day_115 ?_
          simp (disch := omega) only [B_X8_day_0, wi_aload_n, wi_iload_n, wi_invokevirtual, cnt_7, B_X8_day_5, wi_if_eq, B_X8_day_13, wi_iand, wi_if_ne, wi_ior, wi_getfield, fldv_7_3, fds_7_3, fldv_6_11, fds_6_11, cnt_6, B_X8_day_36, wi_iconst, wi_ireturn, B_X8_day_38, fldv_6_7, fds_6_7, wi_bipush, B_X8_day_51, B_X8_day_58, wi_iaload, fldv_6_9, fds_6_9, wi_icmp_gt, wi_invokestatic, B_X8_day_74, fldv_6_10, fds_6_10, wi_icmp_le, B_X8_day_84, B_X8_day_87, fldv_7_6, fds_7_6, cnt_0, B_X8_day_95, B_X8_day_101, B_X8_day_108, B_X8_day_111, B_X8_day_115, no0, no1, nz1, nz2, nz3, nz4, nz5, nz7, nz8, Classical.not_not, bz0, bz1, wi_nil, ld_0, ld_s, isIv_I, isLv_L, isRv_R, true_and, and_true, lset_0, lset_1, lset_s, avw_I, avw_L, avw_R, clr_cons, clr_nil, kst_0, kst_1, kstL_0, kstL_1, addk_I, pA_0, pA_s, pD_0, pD_s, wid_nil, wid_cons, rcv_c, putv_I, putv_L, List.length_cons, List.length_nil, List.set_cons_zero, List.set_cons_succ, not_false_eq_true, Nat.reduceMod, Nat.reduceDiv, Nat.reduceEqDiff, Nat.reduceLT, Nat.reduceLeDiff, Nat.reduceAdd, Nat.reduceSub, reduceIte, Nat.lt_irrefl, Nat.zero_ne_one, Nat.one_ne_zero, Nat.zero_add, List.nil_append, List.cons_append, Option.toList_some, Option.toList_none, forall_const, false_implies, true_implies, false_or, or_false, true_or, or_true, i_le, i_lt, i_eq, i_eq0, i_lt0, i_0le, i_0lt, i_le0, i_in1, i_cl, nI_add, pk_mul, pk_sub, i_div, i_rem, i_sh1, i_bit, i_or, i_and, i_andn, nt_le, nf_le, nt_lt, nf_lt, nt_eq, nf_eq, not_true_eq_false, and_self, and_false, false_and, eq_self, Bool.toNat_true, Bool.toNat_false, i_bool, i_bool1, Bool.false_eq_true, Bool.true_eq_false, reduceCtorEq, i_neg1, i_neg2, i_neg3, i_neg4, i_neg5, i_neg6, i_neg7, i_neg8, i_neg9, i_nega, i_negb, i_negc, i_max2, i_min2])
        refine c_isSet hy hn5 ?_
        try simp (disch := omega) only [no0, no1, nz1, nz2, nz3, nz4, nz5, nz7, nz8, Classical.not_not, bz0, bz1, wi_nil, ld_0, ld_s, isIv_I, isLv_L, isRv_R, true_and, and_true, lset_0, lset_1, lset_s, avw_I, avw_L, avw_R, clr_cons, clr_nil, kst_0, kst_1, kstL_0, kstL_1, addk_I, pA_0, pA_s, pD_0, pD_s, wid_nil, wid_cons, rcv_c, putv_I, putv_L, List.length_cons, List.length_nil, List.set_cons_zero, List.set_cons_succ, not_false_eq_true, Nat.reduceMod, Nat.reduceDiv, Nat.reduceEqDiff, Nat.reduceLT, Nat.reduceLeDiff, Nat.reduceAdd, Nat.reduceSub, reduceIte, Nat.lt_irrefl, Nat.zero_ne_one, Nat.one_ne_zero, Nat.zero_add, List.nil_append, List.cons_append, Option.toList_some, Option.toList_none, forall_const, false_implies, true_implies, false_or, or_false, true_or, or_true, i_le, i_lt, i_eq, i_eq0, i_lt0, i_0le, i_0lt, i_le0, i_in1, i_cl, nI_add, pk_mul, pk_sub, i_div, i_rem, i_sh1, i_bit, i_or, i_and, i_andn, nt_le, nf_le, nt_lt, nf_lt, nt_eq, nf_eq, not_true_eq_false, and_self, and_false, false_and, eq_self, Bool.toNat_true, Bool.toNat_false, i_bool, i_bool1, Bool.false_eq_true, Bool.true_eq_false, reduceCtorEq, i_neg1, i_neg2, i_neg3, i_neg4, i_neg5, i_neg6, i_neg7, i_neg8, i_neg9, i_nega, i_negb, i_negc, i_max2, i_min2, hs, wi_nil]
        repeat (
          first
          | refine s_X8_day_0 ?_
          | refine s_X8_day_5 ?_
          | refine s_X8_day_13 ?_
          | refine s_X8_day_36 ?_
          | refine s_X8_day_38 ?_
          | refine s_X8_day_51 ?_
          | refine s_X8_day_58 ?_
          | refine s_X8_day_74 ?_
          | refine s_X8_day_84 ?_
          | refine s_X8_day_87 ?_
          | refine s_X8_day_95 ?_
          | refine s_X8_day_101 ?_
          | refine s_X8_day_108 ?_
          | refine s_X8_day_111 ?_
          | refine s_X8_day_115 ?_
          simp (disch := omega) only [B_X8_day_0, wi_aload_n, wi_iload_n, wi_invokevirtual, cnt_7, B_X8_day_5, wi_if_eq, B_X8_day_13, wi_iand, wi_if_ne, wi_ior, wi_getfield, fldv_7_3, fds_7_3, fldv_6_11, fds_6_11, cnt_6, B_X8_day_36, wi_iconst, wi_ireturn, B_X8_day_38, fldv_6_7, fds_6_7, wi_bipush, B_X8_day_51, B_X8_day_58, wi_iaload, fldv_6_9, fds_6_9, wi_icmp_gt, wi_invokestatic, B_X8_day_74, fldv_6_10, fds_6_10, wi_icmp_le, B_X8_day_84, B_X8_day_87, fldv_7_6, fds_7_6, cnt_0, B_X8_day_95, B_X8_day_101, B_X8_day_108, B_X8_day_111, B_X8_day_115, no0, no1, nz1, nz2, nz3, nz4, nz5, nz7, nz8, Classical.not_not, bz0, bz1, wi_nil, ld_0, ld_s, isIv_I, isLv_L, isRv_R, true_and, and_true, lset_0, lset_1, lset_s, avw_I, avw_L, avw_R, clr_cons, clr_nil, kst_0, kst_1, kstL_0, kstL_1, addk_I, pA_0, pA_s, pD_0, pD_s, wid_nil, wid_cons, rcv_c, putv_I, putv_L, List.length_cons, List.length_nil, List.set_cons_zero, List.set_cons_succ, not_false_eq_true, Nat.reduceMod, Nat.reduceDiv, Nat.reduceEqDiff, Nat.reduceLT, Nat.reduceLeDiff, Nat.reduceAdd, Nat.reduceSub, reduceIte, Nat.lt_irrefl, Nat.zero_ne_one, Nat.one_ne_zero, Nat.zero_add, List.nil_append, List.cons_append, Option.toList_some, Option.toList_none, forall_const, false_implies, true_implies, false_or, or_false, true_or, or_true, i_le, i_lt, i_eq, i_eq0, i_lt0, i_0le, i_0lt, i_le0, i_in1, i_cl, nI_add, pk_mul, pk_sub, i_div, i_rem, i_sh1, i_bit, i_or, i_and, i_andn, nt_le, nf_le, nt_lt, nf_lt, nt_eq, nf_eq, not_true_eq_false, and_self, and_false, false_and, eq_self, Bool.toNat_true, Bool.toNat_false, i_bool, i_bool1, Bool.false_eq_true, Bool.true_eq_false, reduceCtorEq, i_neg1, i_neg2, i_neg3, i_neg4, i_neg5, i_neg6, i_neg7, i_neg8, i_neg9, i_nega, i_negb, i_negc, i_max2, i_min2, hs])
        refine c_isSet hy hn5 ?_
        try simp (disch := omega) only [no0, no1, nz1, nz2, nz3, nz4, nz5, nz7, nz8, Classical.not_not, bz0, bz1, wi_nil, ld_0, ld_s, isIv_I, isLv_L, isRv_R, true_and, and_true, lset_0, lset_1, lset_s, avw_I, avw_L, avw_R, clr_cons, clr_nil, kst_0, kst_1, kstL_0, kstL_1, addk_I, pA_0, pA_s, pD_0, pD_s, wid_nil, wid_cons, rcv_c, putv_I, putv_L, List.length_cons, List.length_nil, List.set_cons_zero, List.set_cons_succ, not_false_eq_true, Nat.reduceMod, Nat.reduceDiv, Nat.reduceEqDiff, Nat.reduceLT, Nat.reduceLeDiff, Nat.reduceAdd, Nat.reduceSub, reduceIte, Nat.lt_irrefl, Nat.zero_ne_one, Nat.one_ne_zero, Nat.zero_add, List.nil_append, List.cons_append, Option.toList_some, Option.toList_none, forall_const, false_implies, true_implies, false_or, or_false, true_or, or_true, i_le, i_lt, i_eq, i_eq0, i_lt0, i_0le, i_0lt, i_le0, i_in1, i_cl, nI_add, pk_mul, pk_sub, i_div, i_rem, i_sh1, i_bit, i_or, i_and, i_andn, nt_le, nf_le, nt_lt, nf_lt, nt_eq, nf_eq, not_true_eq_false, and_self, and_false, false_and, eq_self, Bool.toNat_true, Bool.toNat_false, i_bool, i_bool1, Bool.false_eq_true, Bool.true_eq_false, reduceCtorEq, i_neg1, i_neg2, i_neg3, i_neg4, i_neg5, i_neg6, i_neg7, i_neg8, i_neg9, i_nega, i_negb, i_negc, i_max2, i_min2, hoo, wi_nil]
        repeat (
          first
          | refine s_X8_day_0 ?_
          | refine s_X8_day_5 ?_
          | refine s_X8_day_13 ?_
          | refine s_X8_day_36 ?_
          | refine s_X8_day_38 ?_
          | refine s_X8_day_51 ?_
          | refine s_X8_day_58 ?_
          | refine s_X8_day_74 ?_
          | refine s_X8_day_84 ?_
          | refine s_X8_day_87 ?_
          | refine s_X8_day_95 ?_
          | refine s_X8_day_101 ?_
          | refine s_X8_day_108 ?_
          | refine s_X8_day_111 ?_
          | refine s_X8_day_115 ?_
          simp (disch := omega) only [B_X8_day_0, wi_aload_n, wi_iload_n, wi_invokevirtual, cnt_7, B_X8_day_5, wi_if_eq, B_X8_day_13, wi_iand, wi_if_ne, wi_ior, wi_getfield, fldv_7_3, fds_7_3, fldv_6_11, fds_6_11, cnt_6, B_X8_day_36, wi_iconst, wi_ireturn, B_X8_day_38, fldv_6_7, fds_6_7, wi_bipush, B_X8_day_51, B_X8_day_58, wi_iaload, fldv_6_9, fds_6_9, wi_icmp_gt, wi_invokestatic, B_X8_day_74, fldv_6_10, fds_6_10, wi_icmp_le, B_X8_day_84, B_X8_day_87, fldv_7_6, fds_7_6, cnt_0, B_X8_day_95, B_X8_day_101, B_X8_day_108, B_X8_day_111, B_X8_day_115, no0, no1, nz1, nz2, nz3, nz4, nz5, nz7, nz8, Classical.not_not, bz0, bz1, wi_nil, ld_0, ld_s, isIv_I, isLv_L, isRv_R, true_and, and_true, lset_0, lset_1, lset_s, avw_I, avw_L, avw_R, clr_cons, clr_nil, kst_0, kst_1, kstL_0, kstL_1, addk_I, pA_0, pA_s, pD_0, pD_s, wid_nil, wid_cons, rcv_c, putv_I, putv_L, List.length_cons, List.length_nil, List.set_cons_zero, List.set_cons_succ, not_false_eq_true, Nat.reduceMod, Nat.reduceDiv, Nat.reduceEqDiff, Nat.reduceLT, Nat.reduceLeDiff, Nat.reduceAdd, Nat.reduceSub, reduceIte, Nat.lt_irrefl, Nat.zero_ne_one, Nat.one_ne_zero, Nat.zero_add, List.nil_append, List.cons_append, Option.toList_some, Option.toList_none, forall_const, false_implies, true_implies, false_or, or_false, true_or, or_true, i_le, i_lt, i_eq, i_eq0, i_lt0, i_0le, i_0lt, i_le0, i_in1, i_cl, nI_add, pk_mul, pk_sub, i_div, i_rem, i_sh1, i_bit, i_or, i_and, i_andn, nt_le, nf_le, nt_lt, nf_lt, nt_eq, nf_eq, not_true_eq_false, and_self, and_false, false_and, eq_self, Bool.toNat_true, Bool.toNat_false, i_bool, i_bool1, Bool.false_eq_true, Bool.true_eq_false, reduceCtorEq, i_neg1, i_neg2, i_neg3, i_neg4, i_neg5, i_neg6, i_neg7, i_neg8, i_neg9, i_nega, i_negb, i_negc, i_max2, i_min2, hoo])
        refine px ?_
        refine x_entry (ls2 := [aR 8 0, aI (nI s), aI (nI o), aU]) (Nat.le_of_ble_eq_true rfl) pl_9 rfl (Nat.le_of_ble_eq_true rfl) ?_
        try simp (disch := omega) only [no0, no1, nz1, nz2, nz3, nz4, nz5, nz7, nz8, Classical.not_not, bz0, bz1, wi_nil, ld_0, ld_s, isIv_I, isLv_L, isRv_R, true_and, and_true, lset_0, lset_1, lset_s, avw_I, avw_L, avw_R, clr_cons, clr_nil, kst_0, kst_1, kstL_0, kstL_1, addk_I, pA_0, pA_s, pD_0, pD_s, wid_nil, wid_cons, rcv_c, putv_I, putv_L, List.length_cons, List.length_nil, List.set_cons_zero, List.set_cons_succ, not_false_eq_true, Nat.reduceMod, Nat.reduceDiv, Nat.reduceEqDiff, Nat.reduceLT, Nat.reduceLeDiff, Nat.reduceAdd, Nat.reduceSub, reduceIte, Nat.lt_irrefl, Nat.zero_ne_one, Nat.one_ne_zero, Nat.zero_add, List.nil_append, List.cons_append, Option.toList_some, Option.toList_none, forall_const, false_implies, true_implies, false_or, or_false, true_or, or_true, i_le, i_lt, i_eq, i_eq0, i_lt0, i_0le, i_0lt, i_le0, i_in1, i_cl, nI_add, pk_mul, pk_sub, i_div, i_rem, i_sh1, i_bit, i_or, i_and, i_andn, nt_le, nf_le, nt_lt, nf_lt, nt_eq, nf_eq, not_true_eq_false, and_self, and_false, false_and, eq_self, Bool.toNat_true, Bool.toNat_false, i_bool, i_bool1, Bool.false_eq_true, Bool.true_eq_false, reduceCtorEq, i_neg1, i_neg2, i_neg3, i_neg4, i_neg5, i_neg6, i_neg7, i_neg8, i_neg9, i_nega, i_negb, i_negc, i_max2, i_min2, wi_nil]
        repeat (
          first
          | refine s_X9_day_0 ?_
          | refine s_X9_day_5 ?_
          | refine s_X9_day_13 ?_
          | refine s_X9_day_39 ?_
          | refine s_X9_day_40 ?_
          | refine s_X9_day_47 ?_
          | refine s_X9_day_57 ?_
          | refine s_X9_day_66 ?_
          | refine s_X9_day_79 ?_
          | refine s_X9_day_88 ?_
          | refine s_X9_day_91 ?_
          | refine s_X9_day_103 ?_
          | refine s_X9_day_107 ?_
          | refine s_X9_day_117 ?_
          | refine s_X9_day_121 ?_
          simp (disch := omega) only [B_X9_day_0, wi_aload_n, wi_iload_n, wi_invokevirtual, cnt_8, B_X9_day_5, wi_if_eq, B_X9_day_13, wi_iand, wi_if_ne, wi_ior, wi_getfield, fldv_8_20, fds_8_20, wi_iconst, wi_iaload, wi_goto, cnt_40, aTy_40, aLn_40, arr_40, B_X9_day_39, B_X9_day_40, wi_istore_n, wi_ireturn, B_X9_day_47, fldv_8_10, fds_8_10, wi_bipush, B_X9_day_57, B_X9_day_66, wi_icmp_gt, wi_invokestatic, B_X9_day_79, wi_icmp_le, B_X9_day_88, B_X9_day_91, fldv_8_22, fds_8_22, wi_icmp_ne, B_X9_day_103, B_X9_day_107, B_X9_day_117, B_X9_day_121, no0, no1, nz1, nz2, nz3, nz4, nz5, nz7, nz8, Classical.not_not, bz0, bz1, wi_nil, ld_0, ld_s, isIv_I, isLv_L, isRv_R, true_and, and_true, lset_0, lset_1, lset_s, avw_I, avw_L, avw_R, clr_cons, clr_nil, kst_0, kst_1, kstL_0, kstL_1, addk_I, pA_0, pA_s, pD_0, pD_s, wid_nil, wid_cons, rcv_c, putv_I, putv_L, List.length_cons, List.length_nil, List.set_cons_zero, List.set_cons_succ, not_false_eq_true, Nat.reduceMod, Nat.reduceDiv, Nat.reduceEqDiff, Nat.reduceLT, Nat.reduceLeDiff, Nat.reduceAdd, Nat.reduceSub, reduceIte, Nat.lt_irrefl, Nat.zero_ne_one, Nat.one_ne_zero, Nat.zero_add, List.nil_append, List.cons_append, Option.toList_some, Option.toList_none, forall_const, false_implies, true_implies, false_or, or_false, true_or, or_true, i_le, i_lt, i_eq, i_eq0, i_lt0, i_0le, i_0lt, i_le0, i_in1, i_cl, nI_add, pk_mul, pk_sub, i_div, i_rem, i_sh1, i_bit, i_or, i_and, i_andn, nt_le, nf_le, nt_lt, nf_lt, nt_eq, nf_eq, not_true_eq_false, and_self, and_false, false_and, eq_self, Bool.toNat_true, Bool.toNat_false, i_bool, i_bool1, Bool.false_eq_true, Bool.true_eq_false, reduceCtorEq, i_neg1, i_neg2, i_neg3, i_neg4, i_neg5, i_neg6, i_neg7, i_neg8, i_neg9, i_nega, i_negb, i_negc, i_max2, i_min2])
        refine c_mSet hm hn5 ?_
        try simp (disch := omega) only [no0, no1, nz1, nz2, nz3, nz4, nz5, nz7, nz8, Classical.not_not, bz0, bz1, wi_nil, ld_0, ld_s, isIv_I, isLv_L, isRv_R, true_and, and_true, lset_0, lset_1, lset_s, avw_I, avw_L, avw_R, clr_cons, clr_nil, kst_0, kst_1, kstL_0, kstL_1, addk_I, pA_0, pA_s, pD_0, pD_s, wid_nil, wid_cons, rcv_c, putv_I, putv_L, List.length_cons, List.length_nil, List.set_cons_zero, List.set_cons_succ, not_false_eq_true, Nat.reduceMod, Nat.reduceDiv, Nat.reduceEqDiff, Nat.reduceLT, Nat.reduceLeDiff, Nat.reduceAdd, Nat.reduceSub, reduceIte, Nat.lt_irrefl, Nat.zero_ne_one, Nat.one_ne_zero, Nat.zero_add, List.nil_append, List.cons_append, Option.toList_some, Option.toList_none, forall_const, false_implies, true_implies, false_or, or_false, true_or, or_true, i_le, i_lt, i_eq, i_eq0, i_lt0, i_0le, i_0lt, i_le0, i_in1, i_cl, nI_add, pk_mul, pk_sub, i_div, i_rem, i_sh1, i_bit, i_or, i_and, i_andn, nt_le, nf_le, nt_lt, nf_lt, nt_eq, nf_eq, not_true_eq_false, and_self, and_false, false_and, eq_self, Bool.toNat_true, Bool.toNat_false, i_bool, i_bool1, Bool.false_eq_true, Bool.true_eq_false, reduceCtorEq, i_neg1, i_neg2, i_neg3, i_neg4, i_neg5, i_neg6, i_neg7, i_neg8, i_neg9, i_nega, i_negb, i_negc, i_max2, i_min2, hs, wi_nil]
        repeat (
          first
          | refine s_X9_day_0 ?_
          | refine s_X9_day_5 ?_
          | refine s_X9_day_13 ?_
          | refine s_X9_day_39 ?_
          | refine s_X9_day_40 ?_
          | refine s_X9_day_47 ?_
          | refine s_X9_day_57 ?_
          | refine s_X9_day_66 ?_
          | refine s_X9_day_79 ?_
          | refine s_X9_day_88 ?_
          | refine s_X9_day_91 ?_
          | refine s_X9_day_103 ?_
          | refine s_X9_day_107 ?_
          | refine s_X9_day_117 ?_
          | refine s_X9_day_121 ?_
          simp (disch := omega) only [B_X9_day_0, wi_aload_n, wi_iload_n, wi_invokevirtual, cnt_8, B_X9_day_5, wi_if_eq, B_X9_day_13, wi_iand, wi_if_ne, wi_ior, wi_getfield, fldv_8_20, fds_8_20, wi_iconst, wi_iaload, wi_goto, cnt_40, aTy_40, aLn_40, arr_40, B_X9_day_39, B_X9_day_40, wi_istore_n, wi_ireturn, B_X9_day_47, fldv_8_10, fds_8_10, wi_bipush, B_X9_day_57, B_X9_day_66, wi_icmp_gt, wi_invokestatic, B_X9_day_79, wi_icmp_le, B_X9_day_88, B_X9_day_91, fldv_8_22, fds_8_22, wi_icmp_ne, B_X9_day_103, B_X9_day_107, B_X9_day_117, B_X9_day_121, no0, no1, nz1, nz2, nz3, nz4, nz5, nz7, nz8, Classical.not_not, bz0, bz1, wi_nil, ld_0, ld_s, isIv_I, isLv_L, isRv_R, true_and, and_true, lset_0, lset_1, lset_s, avw_I, avw_L, avw_R, clr_cons, clr_nil, kst_0, kst_1, kstL_0, kstL_1, addk_I, pA_0, pA_s, pD_0, pD_s, wid_nil, wid_cons, rcv_c, putv_I, putv_L, List.length_cons, List.length_nil, List.set_cons_zero, List.set_cons_succ, not_false_eq_true, Nat.reduceMod, Nat.reduceDiv, Nat.reduceEqDiff, Nat.reduceLT, Nat.reduceLeDiff, Nat.reduceAdd, Nat.reduceSub, reduceIte, Nat.lt_irrefl, Nat.zero_ne_one, Nat.one_ne_zero, Nat.zero_add, List.nil_append, List.cons_append, Option.toList_some, Option.toList_none, forall_const, false_implies, true_implies, false_or, or_false, true_or, or_true, i_le, i_lt, i_eq, i_eq0, i_lt0, i_0le, i_0lt, i_le0, i_in1, i_cl, nI_add, pk_mul, pk_sub, i_div, i_rem, i_sh1, i_bit, i_or, i_and, i_andn, nt_le, nf_le, nt_lt, nf_lt, nt_eq, nf_eq, not_true_eq_false, and_self, and_false, false_and, eq_self, Bool.toNat_true, Bool.toNat_false, i_bool, i_bool1, Bool.false_eq_true, Bool.true_eq_false, reduceCtorEq, i_neg1, i_neg2, i_neg3, i_neg4, i_neg5, i_neg6, i_neg7, i_neg8, i_neg9, i_nega, i_negb, i_negc, i_max2, i_min2, hs])
        refine c_mSet hm hn5 ?_
        try simp (disch := omega) only [no0, no1, nz1, nz2, nz3, nz4, nz5, nz7, nz8, Classical.not_not, bz0, bz1, wi_nil, ld_0, ld_s, isIv_I, isLv_L, isRv_R, true_and, and_true, lset_0, lset_1, lset_s, avw_I, avw_L, avw_R, clr_cons, clr_nil, kst_0, kst_1, kstL_0, kstL_1, addk_I, pA_0, pA_s, pD_0, pD_s, wid_nil, wid_cons, rcv_c, putv_I, putv_L, List.length_cons, List.length_nil, List.set_cons_zero, List.set_cons_succ, not_false_eq_true, Nat.reduceMod, Nat.reduceDiv, Nat.reduceEqDiff, Nat.reduceLT, Nat.reduceLeDiff, Nat.reduceAdd, Nat.reduceSub, reduceIte, Nat.lt_irrefl, Nat.zero_ne_one, Nat.one_ne_zero, Nat.zero_add, List.nil_append, List.cons_append, Option.toList_some, Option.toList_none, forall_const, false_implies, true_implies, false_or, or_false, true_or, or_true, i_le, i_lt, i_eq, i_eq0, i_lt0, i_0le, i_0lt, i_le0, i_in1, i_cl, nI_add, pk_mul, pk_sub, i_div, i_rem, i_sh1, i_bit, i_or, i_and, i_andn, nt_le, nf_le, nt_lt, nf_lt, nt_eq, nf_eq, not_true_eq_false, and_self, and_false, false_and, eq_self, Bool.toNat_true, Bool.toNat_false, i_bool, i_bool1, Bool.false_eq_true, Bool.true_eq_false, reduceCtorEq, i_neg1, i_neg2, i_neg3, i_neg4, i_neg5, i_neg6, i_neg7, i_neg8, i_neg9, i_nega, i_negb, i_negc, i_max2, i_min2, hoo, wi_nil]
        repeat (
          first
          | refine s_X9_day_0 ?_
          | refine s_X9_day_5 ?_
          | refine s_X9_day_13 ?_
          | refine s_X9_day_39 ?_
          | refine s_X9_day_40 ?_
          | refine s_X9_day_47 ?_
          | refine s_X9_day_57 ?_
          | refine s_X9_day_66 ?_
          | refine s_X9_day_79 ?_
          | refine s_X9_day_88 ?_
          | refine s_X9_day_91 ?_
          | refine s_X9_day_103 ?_
          | refine s_X9_day_107 ?_
          | refine s_X9_day_117 ?_
          | refine s_X9_day_121 ?_
          simp (disch := omega) only [B_X9_day_0, wi_aload_n, wi_iload_n, wi_invokevirtual, cnt_8, B_X9_day_5, wi_if_eq, B_X9_day_13, wi_iand, wi_if_ne, wi_ior, wi_getfield, fldv_8_20, fds_8_20, wi_iconst, wi_iaload, wi_goto, cnt_40, aTy_40, aLn_40, arr_40, B_X9_day_39, B_X9_day_40, wi_istore_n, wi_ireturn, B_X9_day_47, fldv_8_10, fds_8_10, wi_bipush, B_X9_day_57, B_X9_day_66, wi_icmp_gt, wi_invokestatic, B_X9_day_79, wi_icmp_le, B_X9_day_88, B_X9_day_91, fldv_8_22, fds_8_22, wi_icmp_ne, B_X9_day_103, B_X9_day_107, B_X9_day_117, B_X9_day_121, no0, no1, nz1, nz2, nz3, nz4, nz5, nz7, nz8, Classical.not_not, bz0, bz1, wi_nil, ld_0, ld_s, isIv_I, isLv_L, isRv_R, true_and, and_true, lset_0, lset_1, lset_s, avw_I, avw_L, avw_R, clr_cons, clr_nil, kst_0, kst_1, kstL_0, kstL_1, addk_I, pA_0, pA_s, pD_0, pD_s, wid_nil, wid_cons, rcv_c, putv_I, putv_L, List.length_cons, List.length_nil, List.set_cons_zero, List.set_cons_succ, not_false_eq_true, Nat.reduceMod, Nat.reduceDiv, Nat.reduceEqDiff, Nat.reduceLT, Nat.reduceLeDiff, Nat.reduceAdd, Nat.reduceSub, reduceIte, Nat.lt_irrefl, Nat.zero_ne_one, Nat.one_ne_zero, Nat.zero_add, List.nil_append, List.cons_append, Option.toList_some, Option.toList_none, forall_const, false_implies, true_implies, false_or, or_false, true_or, or_true, i_le, i_lt, i_eq, i_eq0, i_lt0, i_0le, i_0lt, i_le0, i_in1, i_cl, nI_add, pk_mul, pk_sub, i_div, i_rem, i_sh1, i_bit, i_or, i_and, i_andn, nt_le, nf_le, nt_lt, nf_lt, nt_eq, nf_eq, not_true_eq_false, and_self, and_false, false_and, eq_self, Bool.toNat_true, Bool.toNat_false, i_bool, i_bool1, Bool.false_eq_true, Bool.true_eq_false, reduceCtorEq, i_neg1, i_neg2, i_neg3, i_neg4, i_neg5, i_neg6, i_neg7, i_neg8, i_neg9, i_nega, i_negb, i_negc, i_max2, i_min2, hoo])
        exact pm h
end
