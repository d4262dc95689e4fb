-- PART 53: tempt
def tI (k : Nat) : Int32 := if k = 0 then -nI 1 else nI (k - 1)
def par (k : Nat) : Bool := decide (k % 2 = 0)
theorem tI_sub {k : Nat} (h : k < 100) : nI k - nI 1 = tI k := fin1 (p := fun k => nI k - nI 1 = tI k) (n := 100) (by decide +kernel) h
theorem tI_dec {k : Nat} (h : k < 100) : nI k + -nI 1 = tI k := fin1 (p := fun k => nI k + -nI 1 = tI k) (n := 100) (by decide +kernel) h
theorem par_s (k : Nat) : par (k + 1) = !par k := by
  unfold par
  rcases Nat.mod_two_eq_zero_or_one k with h | h
  · rw [decide_eq_true h, decide_eq_false (by omega)]; rfl
  · rw [decide_eq_true (show (k + 1) % 2 = 0 by omega), decide_eq_false (show ¬ k % 2 = 0 by omega)]; rfl
section
variable {d B : Nat} {S : MS} {Y Y0 : Nat → Nat → Nat} {P : Option AV → MS → Prop}
theorem l_t0 {v : Nat} {S0 : MS} (t : Bool) (hm0 : YrM S0 40 Y) (ho : YOk 40 Y) (q : ∀ S2, (∀ x, x < 3 ^ Y 6 0 → gA S2 49 0 x = nI (tE Y 0 t x)) → Fs S0 S2 → wpX (d + 9) mX9_tempt 48 [aR 8 0, aI (nI v), aU, aU, aU] [] S2 P) : ∀ (m c : Nat) (S : MS), c + m = 3 ^ Y 6 0 → (∀ x, x < c → gA S 49 0 x = nI (tE Y 0 t x)) → Fs S0 S → wpX (d + 9) mX9_tempt 19 [aR 8 0, aI (nI v), aU, aI (nI c), aU] [] S P := by
  have hn5 := ho.1.1
  have h243 := p3_le hn5
  have h32 := p2_lt hn5
  intro m
  induction m with
  | zero =>
    intro c S hc hx hf
    have e : c = 3 ^ Y 6 0 := by omega
    have hm := yrm_fr hm0 hf rfl rfl
    refine s_X9_tempt_19 ?_
    simp (disch := omega) only [B_X9_tempt_19, wi_iload_n, wi_aload_n, wi_invokevirtual, cnt_8, no0, no1, nz1, nz2, nz3, nz4, nz5, nz7, nz8, Classical.not_not, bz0, bz1, wi_nil, ld_0, ld_s, isIv_I, isLv_L, isRv_R, true_and, and_true, lset_0, lset_1, lset_s, avw_I, avw_L, avw_R, clr_cons, clr_nil, kst_0, kst_1, kstL_0, kstL_1, addk_I, pA_0, pA_s, pD_0, pD_s, wid_nil, wid_cons, rcv_c, putv_I, putv_L, List.length_cons, List.length_nil, List.set_cons_zero, List.set_cons_succ, not_false_eq_true, Nat.reduceMod, Nat.reduceDiv, Nat.reduceEqDiff, Nat.reduceLT, Nat.reduceLeDiff, Nat.reduceAdd, Nat.reduceSub, reduceIte, Nat.lt_irrefl, Nat.zero_ne_one, Nat.one_ne_zero, Nat.zero_add, List.nil_append, List.cons_append, Option.toList_some, Option.toList_none, forall_const, false_implies, true_implies, false_or, or_false, true_or, or_true, i_le, i_lt, i_eq, i_eq0, i_lt0, i_0le, i_0lt, i_le0, i_in1, i_cl, nI_add, pk_mul, pk_sub, i_div, i_rem, i_sh1, i_bit, i_or, i_and, i_andn, nt_le, nf_le, nt_lt, nf_lt, nt_eq, nf_eq, not_true_eq_false, and_self, and_false, false_and, eq_self, Bool.toNat_true, Bool.toNat_false, i_bool, i_bool1, Bool.false_eq_true, Bool.true_eq_false, reduceCtorEq, i_neg1, i_neg2, i_neg3, i_neg4, i_neg5, i_neg6, i_neg7, i_neg8, i_neg9, i_nega, i_negb, i_negc, i_max2, i_min2]
    refine c_codes hm hn5 ?_
    try simp (disch := omega) only [no0, no1, nz1, nz2, nz3, nz4, nz5, nz7, nz8, Classical.not_not, bz0, bz1, wi_nil, ld_0, ld_s, isIv_I, isLv_L, isRv_R, true_and, and_true, lset_0, lset_1, lset_s, avw_I, avw_L, avw_R, clr_cons, clr_nil, kst_0, kst_1, kstL_0, kstL_1, addk_I, pA_0, pA_s, pD_0, pD_s, wid_nil, wid_cons, rcv_c, putv_I, putv_L, List.length_cons, List.length_nil, List.set_cons_zero, List.set_cons_succ, not_false_eq_true, Nat.reduceMod, Nat.reduceDiv, Nat.reduceEqDiff, Nat.reduceLT, Nat.reduceLeDiff, Nat.reduceAdd, Nat.reduceSub, reduceIte, Nat.lt_irrefl, Nat.zero_ne_one, Nat.one_ne_zero, Nat.zero_add, List.nil_append, List.cons_append, Option.toList_some, Option.toList_none, forall_const, false_implies, true_implies, false_or, or_false, true_or, or_true, i_le, i_lt, i_eq, i_eq0, i_lt0, i_0le, i_0lt, i_le0, i_in1, i_cl, nI_add, pk_mul, pk_sub, i_div, i_rem, i_sh1, i_bit, i_or, i_and, i_andn, nt_le, nf_le, nt_lt, nf_lt, nt_eq, nf_eq, not_true_eq_false, and_self, and_false, false_and, eq_self, Bool.toNat_true, Bool.toNat_false, i_bool, i_bool1, Bool.false_eq_true, Bool.true_eq_false, reduceCtorEq, i_neg1, i_neg2, i_neg3, i_neg4, i_neg5, i_neg6, i_neg7, i_neg8, i_neg9, i_nega, i_negb, i_negc, i_max2, i_min2, wi_nil]
    repeat (
      first
      | refine s_X9_tempt_0 ?_
      | refine s_X9_tempt_7 ?_
      | refine s_X9_tempt_10 ?_
      | refine s_X9_tempt_17 ?_
      | refine s_X9_tempt_24 ?_
      | refine s_X9_tempt_38 ?_
      | refine s_X9_tempt_41 ?_
      | refine s_X9_tempt_65 ?_
      | refine s_X9_tempt_87 ?_
      | refine s_X9_tempt_88 ?_
      | refine s_X9_tempt_91 ?_
      | refine s_X9_tempt_98 ?_
      | refine s_X9_tempt_107 ?_
      | refine s_X9_tempt_130 ?_
      | refine s_X9_tempt_136 ?_
      | refine s_X9_tempt_165 ?_
      | refine s_X9_tempt_172 ?_
      | refine s_X9_tempt_173 ?_
      | refine s_X9_tempt_181 ?_
      simp (disch := omega) only [B_X9_tempt_0, wi_aload_n, wi_iload_n, wi_iconst, wi_invokestatic, B_X9_tempt_7, wi_invokevirtual, cnt_8, B_X9_tempt_10, wi_istore_n, wi_if_ge, wi_ireturn, B_X9_tempt_17, B_X9_tempt_19, B_X9_tempt_24, wi_icmp_ge, wi_getfield, fldv_8_34, fds_8_34, B_X9_tempt_38, B_X9_tempt_41, wi_iastore, wi_iinc, wi_goto, cnt_40, aTy_40, aLn_40, arr_40, cnt_49, aTy_49, aLn_49, arr_49, cnt_50, aTy_50, aLn_50, arr_50, B_X9_tempt_48, wi_isub, B_X9_tempt_52, wi_if_lt, wi_istore, B_X9_tempt_59, wi_iload, B_X9_tempt_65, fldv_8_35, fds_8_35, wi_irem, wi_if_ne, B_X9_tempt_87, B_X9_tempt_88, B_X9_tempt_91, B_X9_tempt_98, B_X9_tempt_101, B_X9_tempt_107, wi_iaload, B_X9_tempt_130, B_X9_tempt_136, fldv_8_10, fds_8_10, B_X9_tempt_146, wi_imul, fldv_8_20, fds_8_20, B_X9_tempt_165, wi_if_eq, B_X9_tempt_172, B_X9_tempt_173, wi_iadd, B_X9_tempt_181, no0, no1, nz1, nz2, nz3, nz4, nz5, nz7, nz8, Classical.not_not, bz0, bz1, wi_nil, ld_0, ld_s, isIv_I, isLv_L, isRv_R, true_and, and_true, lset_0, lset_1, lset_s, avw_I, avw_L, avw_R, clr_cons, clr_nil, kst_0, kst_1, kstL_0, kstL_1, addk_I, pA_0, pA_s, pD_0, pD_s, wid_nil, wid_cons, rcv_c, putv_I, putv_L, List.length_cons, List.length_nil, List.set_cons_zero, List.set_cons_succ, not_false_eq_true, Nat.reduceMod, Nat.reduceDiv, Nat.reduceEqDiff, Nat.reduceLT, Nat.reduceLeDiff, Nat.reduceAdd, Nat.reduceSub, reduceIte, Nat.lt_irrefl, Nat.zero_ne_one, Nat.one_ne_zero, Nat.zero_add, List.nil_append, List.cons_append, Option.toList_some, Option.toList_none, forall_const, false_implies, true_implies, false_or, or_false, true_or, or_true, i_le, i_lt, i_eq, i_eq0, i_lt0, i_0le, i_0lt, i_le0, i_in1, i_cl, nI_add, pk_mul, pk_sub, i_div, i_rem, i_sh1, i_bit, i_or, i_and, i_andn, nt_le, nf_le, nt_lt, nf_lt, nt_eq, nf_eq, not_true_eq_false, and_self, and_false, false_and, eq_self, Bool.toNat_true, Bool.toNat_false, i_bool, i_bool1, Bool.false_eq_true, Bool.true_eq_false, reduceCtorEq, i_neg1, i_neg2, i_neg3, i_neg4, i_neg5, i_neg6, i_neg7, i_neg8, i_neg9, i_nega, i_negb, i_negc, i_max2, i_min2])
    exact q S (fun x hx2 => hx x (by omega)) hf
  | succ m ih =>
    intro c S hc hx hf
    have hm := yrm_fr hm0 hf rfl rfl
    have hK := sO_lt (code := c) (w := 2) (Y 6 0)
    refine s_X9_tempt_19 ?_
    simp (disch := omega) only [B_X9_tempt_19, wi_iload_n, wi_aload_n, wi_invokevirtual, cnt_8, no0, no1, nz1, nz2, nz3, nz4, nz5, nz7, nz8, Classical.not_not, bz0, bz1, wi_nil, ld_0, ld_s, isIv_I, isLv_L, isRv_R, true_and, and_true, lset_0, lset_1, lset_s, avw_I, avw_L, avw_R, clr_cons, clr_nil, kst_0, kst_1, kstL_0, kstL_1, addk_I, pA_0, pA_s, pD_0, pD_s, wid_nil, wid_cons, rcv_c, putv_I, putv_L, List.length_cons, List.length_nil, List.set_cons_zero, List.set_cons_succ, not_false_eq_true, Nat.reduceMod, Nat.reduceDiv, Nat.reduceEqDiff, Nat.reduceLT, Nat.reduceLeDiff, Nat.reduceAdd, Nat.reduceSub, reduceIte, Nat.lt_irrefl, Nat.zero_ne_one, Nat.one_ne_zero, Nat.zero_add, List.nil_append, List.cons_append, Option.toList_some, Option.toList_none, forall_const, false_implies, true_implies, false_or, or_false, true_or, or_true, i_le, i_lt, i_eq, i_eq0, i_lt0, i_0le, i_0lt, i_le0, i_in1, i_cl, nI_add, pk_mul, pk_sub, i_div, i_rem, i_sh1, i_bit, i_or, i_and, i_andn, nt_le, nf_le, nt_lt, nf_lt, nt_eq, nf_eq, not_true_eq_false, and_self, and_false, false_and, eq_self, Bool.toNat_true, Bool.toNat_false, i_bool, i_bool1, Bool.false_eq_true, Bool.true_eq_false, reduceCtorEq, i_neg1, i_neg2, i_neg3, i_neg4, i_neg5, i_neg6, i_neg7, i_neg8, i_neg9, i_nega, i_negb, i_negc, i_max2, i_min2]
    refine c_codes hm hn5 ?_
    try simp (disch := omega) only [no0, no1, nz1, nz2, nz3, nz4, nz5, nz7, nz8, Classical.not_not, bz0, bz1, wi_nil, ld_0, ld_s, isIv_I, isLv_L, isRv_R, true_and, and_true, lset_0, lset_1, lset_s, avw_I, avw_L, avw_R, clr_cons, clr_nil, kst_0, kst_1, kstL_0, kstL_1, addk_I, pA_0, pA_s, pD_0, pD_s, wid_nil, wid_cons, rcv_c, putv_I, putv_L, List.length_cons, List.length_nil, List.set_cons_zero, List.set_cons_succ, not_false_eq_true, Nat.reduceMod, Nat.reduceDiv, Nat.reduceEqDiff, Nat.reduceLT, Nat.reduceLeDiff, Nat.reduceAdd, Nat.reduceSub, reduceIte, Nat.lt_irrefl, Nat.zero_ne_one, Nat.one_ne_zero, Nat.zero_add, List.nil_append, List.cons_append, Option.toList_some, Option.toList_none, forall_const, false_implies, true_implies, false_or, or_false, true_or, or_true, i_le, i_lt, i_eq, i_eq0, i_lt0, i_0le, i_0lt, i_le0, i_in1, i_cl, nI_add, pk_mul, pk_sub, i_div, i_rem, i_sh1, i_bit, i_or, i_and, i_andn, nt_le, nf_le, nt_lt, nf_lt, nt_eq, nf_eq, not_true_eq_false, and_self, and_false, false_and, eq_self, Bool.toNat_true, Bool.toNat_false, i_bool, i_bool1, Bool.false_eq_true, Bool.true_eq_false, reduceCtorEq, i_neg1, i_neg2, i_neg3, i_neg4, i_neg5, i_neg6, i_neg7, i_neg8, i_neg9, i_nega, i_negb, i_negc, i_max2, i_min2, wi_nil]
    repeat (
      first
      | refine s_X9_tempt_0 ?_
      | refine s_X9_tempt_7 ?_
      | refine s_X9_tempt_10 ?_
      | refine s_X9_tempt_17 ?_
      | refine s_X9_tempt_24 ?_
      | refine s_X9_tempt_38 ?_
      | refine s_X9_tempt_41 ?_
      | refine s_X9_tempt_48 ?_
      | refine s_X9_tempt_65 ?_
      | refine s_X9_tempt_87 ?_
      | refine s_X9_tempt_88 ?_
      | refine s_X9_tempt_91 ?_
      | refine s_X9_tempt_98 ?_
      | refine s_X9_tempt_107 ?_
      | refine s_X9_tempt_130 ?_
      | refine s_X9_tempt_136 ?_
      | refine s_X9_tempt_165 ?_
      | refine s_X9_tempt_172 ?_
      | refine s_X9_tempt_173 ?_
      | refine s_X9_tempt_181 ?_
      simp (disch := omega) only [B_X9_tempt_0, wi_aload_n, wi_iload_n, wi_iconst, wi_invokestatic, B_X9_tempt_7, wi_invokevirtual, cnt_8, B_X9_tempt_10, wi_istore_n, wi_if_ge, wi_ireturn, B_X9_tempt_17, B_X9_tempt_19, B_X9_tempt_24, wi_icmp_ge, wi_getfield, fldv_8_34, fds_8_34, B_X9_tempt_38, B_X9_tempt_41, wi_iastore, wi_iinc, wi_goto, cnt_40, aTy_40, aLn_40, arr_40, cnt_49, aTy_49, aLn_49, arr_49, cnt_50, aTy_50, aLn_50, arr_50, B_X9_tempt_48, wi_isub, B_X9_tempt_52, wi_if_lt, wi_istore, B_X9_tempt_59, wi_iload, B_X9_tempt_65, fldv_8_35, fds_8_35, wi_irem, wi_if_ne, B_X9_tempt_87, B_X9_tempt_88, B_X9_tempt_91, B_X9_tempt_98, B_X9_tempt_101, B_X9_tempt_107, wi_iaload, B_X9_tempt_130, B_X9_tempt_136, fldv_8_10, fds_8_10, B_X9_tempt_146, wi_imul, fldv_8_20, fds_8_20, B_X9_tempt_165, wi_if_eq, B_X9_tempt_172, B_X9_tempt_173, wi_iadd, B_X9_tempt_181, no0, no1, nz1, nz2, nz3, nz4, nz5, nz7, nz8, Classical.not_not, bz0, bz1, wi_nil, ld_0, ld_s, isIv_I, isLv_L, isRv_R, true_and, and_true, lset_0, lset_1, lset_s, avw_I, avw_L, avw_R, clr_cons, clr_nil, kst_0, kst_1, kstL_0, kstL_1, addk_I, pA_0, pA_s, pD_0, pD_s, wid_nil, wid_cons, rcv_c, putv_I, putv_L, List.length_cons, List.length_nil, List.set_cons_zero, List.set_cons_succ, not_false_eq_true, Nat.reduceMod, Nat.reduceDiv, Nat.reduceEqDiff, Nat.reduceLT, Nat.reduceLeDiff, Nat.reduceAdd, Nat.reduceSub, reduceIte, Nat.lt_irrefl, Nat.zero_ne_one, Nat.one_ne_zero, Nat.zero_add, List.nil_append, List.cons_append, Option.toList_some, Option.toList_none, forall_const, false_implies, true_implies, false_or, or_false, true_or, or_true, i_le, i_lt, i_eq, i_eq0, i_lt0, i_0le, i_0lt, i_le0, i_in1, i_cl, nI_add, pk_mul, pk_sub, i_div, i_rem, i_sh1, i_bit, i_or, i_and, i_andn, nt_le, nf_le, nt_lt, nf_lt, nt_eq, nf_eq, not_true_eq_false, and_self, and_false, false_and, eq_self, Bool.toNat_true, Bool.toNat_false, i_bool, i_bool1, Bool.false_eq_true, Bool.true_eq_false, reduceCtorEq, i_neg1, i_neg2, i_neg3, i_neg4, i_neg5, i_neg6, i_neg7, i_neg8, i_neg9, i_nega, i_negb, i_negc, i_max2, i_min2])
    refine c_setOf (by omega) (by decide) hm hn5 ?_
    try simp (disch := omega) only [no0, no1, nz1, nz2, nz3, nz4, nz5, nz7, nz8, Classical.not_not, bz0, bz1, wi_nil, ld_0, ld_s, isIv_I, isLv_L, isRv_R, true_and, and_true, lset_0, lset_1, lset_s, avw_I, avw_L, avw_R, clr_cons, clr_nil, kst_0, kst_1, kstL_0, kstL_1, addk_I, pA_0, pA_s, pD_0, pD_s, wid_nil, wid_cons, rcv_c, putv_I, putv_L, List.length_cons, List.length_nil, List.set_cons_zero, List.set_cons_succ, not_false_eq_true, Nat.reduceMod, Nat.reduceDiv, Nat.reduceEqDiff, Nat.reduceLT, Nat.reduceLeDiff, Nat.reduceAdd, Nat.reduceSub, reduceIte, Nat.lt_irrefl, Nat.zero_ne_one, Nat.one_ne_zero, Nat.zero_add, List.nil_append, List.cons_append, Option.toList_some, Option.toList_none, forall_const, false_implies, true_implies, false_or, or_false, true_or, or_true, i_le, i_lt, i_eq, i_eq0, i_lt0, i_0le, i_0lt, i_le0, i_in1, i_cl, nI_add, pk_mul, pk_sub, i_div, i_rem, i_sh1, i_bit, i_or, i_and, i_andn, nt_le, nf_le, nt_lt, nf_lt, nt_eq, nf_eq, not_true_eq_false, and_self, and_false, false_and, eq_self, Bool.toNat_true, Bool.toNat_false, i_bool, i_bool1, Bool.false_eq_true, Bool.true_eq_false, reduceCtorEq, i_neg1, i_neg2, i_neg3, i_neg4, i_neg5, i_neg6, i_neg7, i_neg8, i_neg9, i_nega, i_negb, i_negc, i_max2, i_min2, wi_nil]
    repeat (
      first
      | refine s_X9_tempt_0 ?_
      | refine s_X9_tempt_7 ?_
      | refine s_X9_tempt_10 ?_
      | refine s_X9_tempt_17 ?_
      | refine s_X9_tempt_24 ?_
      | refine s_X9_tempt_38 ?_
      | refine s_X9_tempt_41 ?_
      | refine s_X9_tempt_48 ?_
      | refine s_X9_tempt_65 ?_
      | refine s_X9_tempt_87 ?_
      | refine s_X9_tempt_88 ?_
      | refine s_X9_tempt_91 ?_
      | refine s_X9_tempt_98 ?_
      | refine s_X9_tempt_107 ?_
      | refine s_X9_tempt_130 ?_
      | refine s_X9_tempt_136 ?_
      | refine s_X9_tempt_165 ?_
      | refine s_X9_tempt_172 ?_
      | refine s_X9_tempt_173 ?_
      | refine s_X9_tempt_181 ?_
      simp (disch := omega) only [B_X9_tempt_0, wi_aload_n, wi_iload_n, wi_iconst, wi_invokestatic, B_X9_tempt_7, wi_invokevirtual, cnt_8, B_X9_tempt_10, wi_istore_n, wi_if_ge, wi_ireturn, B_X9_tempt_17, B_X9_tempt_19, B_X9_tempt_24, wi_icmp_ge, wi_getfield, fldv_8_34, fds_8_34, B_X9_tempt_38, B_X9_tempt_41, wi_iastore, wi_iinc, wi_goto, cnt_40, aTy_40, aLn_40, arr_40, cnt_49, aTy_49, aLn_49, arr_49, cnt_50, aTy_50, aLn_50, arr_50, B_X9_tempt_48, wi_isub, B_X9_tempt_52, wi_if_lt, wi_istore, B_X9_tempt_59, wi_iload, B_X9_tempt_65, fldv_8_35, fds_8_35, wi_irem, wi_if_ne, B_X9_tempt_87, B_X9_tempt_88, B_X9_tempt_91, B_X9_tempt_98, B_X9_tempt_101, B_X9_tempt_107, wi_iaload, B_X9_tempt_130, B_X9_tempt_136, fldv_8_10, fds_8_10, B_X9_tempt_146, wi_imul, fldv_8_20, fds_8_20, B_X9_tempt_165, wi_if_eq, B_X9_tempt_172, B_X9_tempt_173, wi_iadd, B_X9_tempt_181, no0, no1, nz1, nz2, nz3, nz4, nz5, nz7, nz8, Classical.not_not, bz0, bz1, wi_nil, ld_0, ld_s, isIv_I, isLv_L, isRv_R, true_and, and_true, lset_0, lset_1, lset_s, avw_I, avw_L, avw_R, clr_cons, clr_nil, kst_0, kst_1, kstL_0, kstL_1, addk_I, pA_0, pA_s, pD_0, pD_s, wid_nil, wid_cons, rcv_c, putv_I, putv_L, List.length_cons, List.length_nil, List.set_cons_zero, List.set_cons_succ, not_false_eq_true, Nat.reduceMod, Nat.reduceDiv, Nat.reduceEqDiff, Nat.reduceLT, Nat.reduceLeDiff, Nat.reduceAdd, Nat.reduceSub, reduceIte, Nat.lt_irrefl, Nat.zero_ne_one, Nat.one_ne_zero, Nat.zero_add, List.nil_append, List.cons_append, Option.toList_some, Option.toList_none, forall_const, false_implies, true_implies, false_or, or_false, true_or, or_true, i_le, i_lt, i_eq, i_eq0, i_lt0, i_0le, i_0lt, i_le0, i_in1, i_cl, nI_add, pk_mul, pk_sub, i_div, i_rem, i_sh1, i_bit, i_or, i_and, i_andn, nt_le, nf_le, nt_lt, nf_lt, nt_eq, nf_eq, not_true_eq_false, and_self, and_false, false_and, eq_self, Bool.toNat_true, Bool.toNat_false, i_bool, i_bool1, Bool.false_eq_true, Bool.true_eq_false, reduceCtorEq, i_neg1, i_neg2, i_neg3, i_neg4, i_neg5, i_neg6, i_neg7, i_neg8, i_neg9, i_nega, i_negb, i_negc, i_max2, i_min2])
    refine c_bits (by omega) ?_
    try simp (disch := omega) only [no0, no1, nz1, nz2, nz3, nz4, nz5, nz7, nz8, Classical.not_not, bz0, bz1, wi_nil, ld_0, ld_s, isIv_I, isLv_L, isRv_R, true_and, and_true, lset_0, lset_1, lset_s, avw_I, avw_L, avw_R, clr_cons, clr_nil, kst_0, kst_1, kstL_0, kstL_1, addk_I, pA_0, pA_s, pD_0, pD_s, wid_nil, wid_cons, rcv_c, putv_I, putv_L, List.length_cons, List.length_nil, List.set_cons_zero, List.set_cons_succ, not_false_eq_true, Nat.reduceMod, Nat.reduceDiv, Nat.reduceEqDiff, Nat.reduceLT, Nat.reduceLeDiff, Nat.reduceAdd, Nat.reduceSub, reduceIte, Nat.lt_irrefl, Nat.zero_ne_one, Nat.one_ne_zero, Nat.zero_add, List.nil_append, List.cons_append, Option.toList_some, Option.toList_none, forall_const, false_implies, true_implies, false_or, or_false, true_or, or_true, i_le, i_lt, i_eq, i_eq0, i_lt0, i_0le, i_0lt, i_le0, i_in1, i_cl, nI_add, pk_mul, pk_sub, i_div, i_rem, i_sh1, i_bit, i_or, i_and, i_andn, nt_le, nf_le, nt_lt, nf_lt, nt_eq, nf_eq, not_true_eq_false, and_self, and_false, false_and, eq_self, Bool.toNat_true, Bool.toNat_false, i_bool, i_bool1, Bool.false_eq_true, Bool.true_eq_false, reduceCtorEq, i_neg1, i_neg2, i_neg3, i_neg4, i_neg5, i_neg6, i_neg7, i_neg8, i_neg9, i_nega, i_negb, i_negc, i_max2, i_min2, wi_nil]
    repeat (
      first
      | refine s_X9_tempt_0 ?_
      | refine s_X9_tempt_7 ?_
      | refine s_X9_tempt_10 ?_
      | refine s_X9_tempt_17 ?_
      | refine s_X9_tempt_24 ?_
      | refine s_X9_tempt_38 ?_
      | refine s_X9_tempt_41 ?_
      | refine s_X9_tempt_48 ?_
      | refine s_X9_tempt_65 ?_
      | refine s_X9_tempt_87 ?_
      | refine s_X9_tempt_88 ?_
      | refine s_X9_tempt_91 ?_
      | refine s_X9_tempt_98 ?_
      | refine s_X9_tempt_107 ?_
      | refine s_X9_tempt_130 ?_
      | refine s_X9_tempt_136 ?_
      | refine s_X9_tempt_165 ?_
      | refine s_X9_tempt_172 ?_
      | refine s_X9_tempt_173 ?_
      | refine s_X9_tempt_181 ?_
      simp (disch := omega) only [B_X9_tempt_0, wi_aload_n, wi_iload_n, wi_iconst, wi_invokestatic, B_X9_tempt_7, wi_invokevirtual, cnt_8, B_X9_tempt_10, wi_istore_n, wi_if_ge, wi_ireturn, B_X9_tempt_17, B_X9_tempt_19, B_X9_tempt_24, wi_icmp_ge, wi_getfield, fldv_8_34, fds_8_34, B_X9_tempt_38, B_X9_tempt_41, wi_iastore, wi_iinc, wi_goto, cnt_40, aTy_40, aLn_40, arr_40, cnt_49, aTy_49, aLn_49, arr_49, cnt_50, aTy_50, aLn_50, arr_50, B_X9_tempt_48, wi_isub, B_X9_tempt_52, wi_if_lt, wi_istore, B_X9_tempt_59, wi_iload, B_X9_tempt_65, fldv_8_35, fds_8_35, wi_irem, wi_if_ne, B_X9_tempt_87, B_X9_tempt_88, B_X9_tempt_91, B_X9_tempt_98, B_X9_tempt_101, B_X9_tempt_107, wi_iaload, B_X9_tempt_130, B_X9_tempt_136, fldv_8_10, fds_8_10, B_X9_tempt_146, wi_imul, fldv_8_20, fds_8_20, B_X9_tempt_165, wi_if_eq, B_X9_tempt_172, B_X9_tempt_173, wi_iadd, B_X9_tempt_181, no0, no1, nz1, nz2, nz3, nz4, nz5, nz7, nz8, Classical.not_not, bz0, bz1, wi_nil, ld_0, ld_s, isIv_I, isLv_L, isRv_R, true_and, and_true, lset_0, lset_1, lset_s, avw_I, avw_L, avw_R, clr_cons, clr_nil, kst_0, kst_1, kstL_0, kstL_1, addk_I, pA_0, pA_s, pD_0, pD_s, wid_nil, wid_cons, rcv_c, putv_I, putv_L, List.length_cons, List.length_nil, List.set_cons_zero, List.set_cons_succ, not_false_eq_true, Nat.reduceMod, Nat.reduceDiv, Nat.reduceEqDiff, Nat.reduceLT, Nat.reduceLeDiff, Nat.reduceAdd, Nat.reduceSub, reduceIte, Nat.lt_irrefl, Nat.zero_ne_one, Nat.one_ne_zero, Nat.zero_add, List.nil_append, List.cons_append, Option.toList_some, Option.toList_none, forall_const, false_implies, true_implies, false_or, or_false, true_or, or_true, i_le, i_lt, i_eq, i_eq0, i_lt0, i_0le, i_0lt, i_le0, i_in1, i_cl, nI_add, pk_mul, pk_sub, i_div, i_rem, i_sh1, i_bit, i_or, i_and, i_andn, nt_le, nf_le, nt_lt, nf_lt, nt_eq, nf_eq, not_true_eq_false, and_self, and_false, false_and, eq_self, Bool.toNat_true, Bool.toNat_false, i_bool, i_bool1, Bool.false_eq_true, Bool.true_eq_false, reduceCtorEq, i_neg1, i_neg2, i_neg3, i_neg4, i_neg5, i_neg6, i_neg7, i_neg8, i_neg9, i_nega, i_negb, i_negc, i_max2, i_min2])
    refine ih (c + 1) _ (by omega) (fun x hx2 => ?_) (hf.trans (fr_sA rfl))
    rw [gA_same]
    by_cases e : x = c
    · subst e
      rw [pk_us]
      unfold tE
      rw [TT, Nat.add_zero]
    · rw [pk_un e]
      exact hx x (by omega)
theorem l_t1 {k j : Nat} {S0 : MS} (hk : k < 6) (hm0 : YrM S0 40 Y) (ho : YOk 40 Y) (hj : j < 6) (hE : ∀ x, x < 3 ^ Y 6 0 → gA S0 49 0 x = nI (tE Y j (!par k) x)) (q : ∀ S2, (∀ x, x < 3 ^ Y 6 0 → gA S2 50 0 x = nI (tE Y (j + 1) (par k) x)) → Fs S0 S2 → wpX (d + 9) mX9_tempt 98 [aR 8 0, aU, aU, aI (nI k), aU] [] S2 P) : ∀ (m c : Nat) (S : MS), c + m = 3 ^ Y 6 0 → (∀ x, x < c → gA S 50 0 x = nI (tE Y (j + 1) (par k) x)) → gA S 49 0 = gA S0 49 0 → Fs S0 S → wpX (d + 9) mX9_tempt 59 [aR 8 0, aU, aU, aI (nI k), aI (nI c)] [] S P := by
  have hn5 := ho.1.1
  have h243 := p3_le hn5
  intro m
  induction m with
  | zero =>
    intro c S hc hx h49 hf
    have e : c = 3 ^ Y 6 0 := by omega
    have hm := yrm_fr hm0 hf rfl rfl
    refine s_X9_tempt_59 ?_
    simp (disch := omega) only [B_X9_tempt_59, wi_iload, wi_aload_n, wi_invokevirtual, cnt_8, no0, no1, nz1, nz2, nz3, nz4, nz5, nz7, nz8, Classical.not_not, bz0, bz1, wi_nil, ld_0, ld_s, isIv_I, isLv_L, isRv_R, true_and, and_true, lset_0, lset_1, lset_s, avw_I, avw_L, avw_R, clr_cons, clr_nil, kst_0, kst_1, kstL_0, kstL_1, addk_I, pA_0, pA_s, pD_0, pD_s, wid_nil, wid_cons, rcv_c, putv_I, putv_L, List.length_cons, List.length_nil, List.set_cons_zero, List.set_cons_succ, not_false_eq_true, Nat.reduceMod, Nat.reduceDiv, Nat.reduceEqDiff, Nat.reduceLT, Nat.reduceLeDiff, Nat.reduceAdd, Nat.reduceSub, reduceIte, Nat.lt_irrefl, Nat.zero_ne_one, Nat.one_ne_zero, Nat.zero_add, List.nil_append, List.cons_append, Option.toList_some, Option.toList_none, forall_const, false_implies, true_implies, false_or, or_false, true_or, or_true, i_le, i_lt, i_eq, i_eq0, i_lt0, i_0le, i_0lt, i_le0, i_in1, i_cl, nI_add, pk_mul, pk_sub, i_div, i_rem, i_sh1, i_bit, i_or, i_and, i_andn, nt_le, nf_le, nt_lt, nf_lt, nt_eq, nf_eq, not_true_eq_false, and_self, and_false, false_and, eq_self, Bool.toNat_true, Bool.toNat_false, i_bool, i_bool1, Bool.false_eq_true, Bool.true_eq_false, reduceCtorEq, i_neg1, i_neg2, i_neg3, i_neg4, i_neg5, i_neg6, i_neg7, i_neg8, i_neg9, i_nega, i_negb, i_negc, i_max2, i_min2]
    refine c_codes hm hn5 ?_
    try simp (disch := omega) only [no0, no1, nz1, nz2, nz3, nz4, nz5, nz7, nz8, Classical.not_not, bz0, bz1, wi_nil, ld_0, ld_s, isIv_I, isLv_L, isRv_R, true_and, and_true, lset_0, lset_1, lset_s, avw_I, avw_L, avw_R, clr_cons, clr_nil, kst_0, kst_1, kstL_0, kstL_1, addk_I, pA_0, pA_s, pD_0, pD_s, wid_nil, wid_cons, rcv_c, putv_I, putv_L, List.length_cons, List.length_nil, List.set_cons_zero, List.set_cons_succ, not_false_eq_true, Nat.reduceMod, Nat.reduceDiv, Nat.reduceEqDiff, Nat.reduceLT, Nat.reduceLeDiff, Nat.reduceAdd, Nat.reduceSub, reduceIte, Nat.lt_irrefl, Nat.zero_ne_one, Nat.one_ne_zero, Nat.zero_add, List.nil_append, List.cons_append, Option.toList_some, Option.toList_none, forall_const, false_implies, true_implies, false_or, or_false, true_or, or_true, i_le, i_lt, i_eq, i_eq0, i_lt0, i_0le, i_0lt, i_le0, i_in1, i_cl, nI_add, pk_mul, pk_sub, i_div, i_rem, i_sh1, i_bit, i_or, i_and, i_andn, nt_le, nf_le, nt_lt, nf_lt, nt_eq, nf_eq, not_true_eq_false, and_self, and_false, false_and, eq_self, Bool.toNat_true, Bool.toNat_false, i_bool, i_bool1, Bool.false_eq_true, Bool.true_eq_false, reduceCtorEq, i_neg1, i_neg2, i_neg3, i_neg4, i_neg5, i_neg6, i_neg7, i_neg8, i_neg9, i_nega, i_negb, i_negc, i_max2, i_min2, wi_nil]
    repeat (
      first
      | refine s_X9_tempt_0 ?_
      | refine s_X9_tempt_7 ?_
      | refine s_X9_tempt_10 ?_
      | refine s_X9_tempt_17 ?_
      | refine s_X9_tempt_24 ?_
      | refine s_X9_tempt_38 ?_
      | refine s_X9_tempt_41 ?_
      | refine s_X9_tempt_48 ?_
      | refine s_X9_tempt_65 ?_
      | refine s_X9_tempt_87 ?_
      | refine s_X9_tempt_88 ?_
      | refine s_X9_tempt_91 ?_
      | refine s_X9_tempt_107 ?_
      | refine s_X9_tempt_130 ?_
      | refine s_X9_tempt_136 ?_
      | refine s_X9_tempt_165 ?_
      | refine s_X9_tempt_172 ?_
      | refine s_X9_tempt_173 ?_
      | refine s_X9_tempt_181 ?_
      simp (disch := omega) only [B_X9_tempt_0, wi_aload_n, wi_iload_n, wi_iconst, wi_invokestatic, B_X9_tempt_7, wi_invokevirtual, cnt_8, B_X9_tempt_10, wi_istore_n, wi_if_ge, wi_ireturn, B_X9_tempt_17, B_X9_tempt_19, B_X9_tempt_24, wi_icmp_ge, wi_getfield, fldv_8_34, fds_8_34, B_X9_tempt_38, B_X9_tempt_41, wi_iastore, wi_iinc, wi_goto, cnt_40, aTy_40, aLn_40, arr_40, cnt_49, aTy_49, aLn_49, arr_49, cnt_50, aTy_50, aLn_50, arr_50, B_X9_tempt_48, wi_isub, B_X9_tempt_52, wi_if_lt, wi_istore, B_X9_tempt_59, wi_iload, B_X9_tempt_65, fldv_8_35, fds_8_35, wi_irem, wi_if_ne, B_X9_tempt_87, B_X9_tempt_88, B_X9_tempt_91, B_X9_tempt_98, B_X9_tempt_101, B_X9_tempt_107, wi_iaload, B_X9_tempt_130, B_X9_tempt_136, fldv_8_10, fds_8_10, B_X9_tempt_146, wi_imul, fldv_8_20, fds_8_20, B_X9_tempt_165, wi_if_eq, B_X9_tempt_172, B_X9_tempt_173, wi_iadd, B_X9_tempt_181, no0, no1, nz1, nz2, nz3, nz4, nz5, nz7, nz8, Classical.not_not, bz0, bz1, wi_nil, ld_0, ld_s, isIv_I, isLv_L, isRv_R, true_and, and_true, lset_0, lset_1, lset_s, avw_I, avw_L, avw_R, clr_cons, clr_nil, kst_0, kst_1, kstL_0, kstL_1, addk_I, pA_0, pA_s, pD_0, pD_s, wid_nil, wid_cons, rcv_c, putv_I, putv_L, List.length_cons, List.length_nil, List.set_cons_zero, List.set_cons_succ, not_false_eq_true, Nat.reduceMod, Nat.reduceDiv, Nat.reduceEqDiff, Nat.reduceLT, Nat.reduceLeDiff, Nat.reduceAdd, Nat.reduceSub, reduceIte, Nat.lt_irrefl, Nat.zero_ne_one, Nat.one_ne_zero, Nat.zero_add, List.nil_append, List.cons_append, Option.toList_some, Option.toList_none, forall_const, false_implies, true_implies, false_or, or_false, true_or, or_true, i_le, i_lt, i_eq, i_eq0, i_lt0, i_0le, i_0lt, i_le0, i_in1, i_cl, nI_add, pk_mul, pk_sub, i_div, i_rem, i_sh1, i_bit, i_or, i_and, i_andn, nt_le, nf_le, nt_lt, nf_lt, nt_eq, nf_eq, not_true_eq_false, and_self, and_false, false_and, eq_self, Bool.toNat_true, Bool.toNat_false, i_bool, i_bool1, Bool.false_eq_true, Bool.true_eq_false, reduceCtorEq, i_neg1, i_neg2, i_neg3, i_neg4, i_neg5, i_neg6, i_neg7, i_neg8, i_neg9, i_nega, i_negb, i_negc, i_max2, i_min2])
    exact q S (fun x hx2 => hx x (by omega)) hf
  | succ m ih =>
    intro c S hc hx h49 hf
    have hm := yrm_fr hm0 hf rfl rfl
    have hE2 : ∀ x, x < 3 ^ Y 6 0 → gA S 49 0 x = nI (tE Y j (!par k) x) ∧ tE Y j (!par k) x ≤ 100 := fun x hx => ⟨by rw [h49]; exact hE x hx, by have := tE_le (Y := Y) (k := j) (t := !par k) (code := x) hn5; omega⟩
    have key : wpX (d + 9) mX9_tempt 88 [aR 8 0, aU, aU, aI (nI k), aI (nI c)] [aI (nI (par k).toNat), aI (nI c), aR 8 0, aI (nI c), aR 50 0] S P := by
      refine s_X9_tempt_88 ?_
      simp (disch := omega) only [B_X9_tempt_88, wi_invokevirtual, cnt_8, no0, no1, nz1, nz2, nz3, nz4, nz5, nz7, nz8, Classical.not_not, bz0, bz1, wi_nil, ld_0, ld_s, isIv_I, isLv_L, isRv_R, true_and, and_true, lset_0, lset_1, lset_s, avw_I, avw_L, avw_R, clr_cons, clr_nil, kst_0, kst_1, kstL_0, kstL_1, addk_I, pA_0, pA_s, pD_0, pD_s, wid_nil, wid_cons, rcv_c, putv_I, putv_L, List.length_cons, List.length_nil, List.set_cons_zero, List.set_cons_succ, not_false_eq_true, Nat.reduceMod, Nat.reduceDiv, Nat.reduceEqDiff, Nat.reduceLT, Nat.reduceLeDiff, Nat.reduceAdd, Nat.reduceSub, reduceIte, Nat.lt_irrefl, Nat.zero_ne_one, Nat.one_ne_zero, Nat.zero_add, List.nil_append, List.cons_append, Option.toList_some, Option.toList_none, forall_const, false_implies, true_implies, false_or, or_false, true_or, or_true, i_le, i_lt, i_eq, i_eq0, i_lt0, i_0le, i_0lt, i_le0, i_in1, i_cl, nI_add, pk_mul, pk_sub, i_div, i_rem, i_sh1, i_bit, i_or, i_and, i_andn, nt_le, nf_le, nt_lt, nf_lt, nt_eq, nf_eq, not_true_eq_false, and_self, and_false, false_and, eq_self, Bool.toNat_true, Bool.toNat_false, i_bool, i_bool1, Bool.false_eq_true, Bool.true_eq_false, reduceCtorEq, i_neg1, i_neg2, i_neg3, i_neg4, i_neg5, i_neg6, i_neg7, i_neg8, i_neg9, i_nega, i_negb, i_negc, i_max2, i_min2]
      refine c_turned (t := par k) (E := tE Y j (!par k)) (by omega) hm ho hE2 ?_
      rw [← tE_step ho (by omega)]
      try simp (disch := omega) only [no0, no1, nz1, nz2, nz3, nz4, nz5, nz7, nz8, Classical.not_not, bz0, bz1, wi_nil, ld_0, ld_s, isIv_I, isLv_L, isRv_R, true_and, and_true, lset_0, lset_1, lset_s, avw_I, avw_L, avw_R, clr_cons, clr_nil, kst_0, kst_1, kstL_0, kstL_1, addk_I, pA_0, pA_s, pD_0, pD_s, wid_nil, wid_cons, rcv_c, putv_I, putv_L, List.length_cons, List.length_nil, List.set_cons_zero, List.set_cons_succ, not_false_eq_true, Nat.reduceMod, Nat.reduceDiv, Nat.reduceEqDiff, Nat.reduceLT, Nat.reduceLeDiff, Nat.reduceAdd, Nat.reduceSub, reduceIte, Nat.lt_irrefl, Nat.zero_ne_one, Nat.one_ne_zero, Nat.zero_add, List.nil_append, List.cons_append, Option.toList_some, Option.toList_none, forall_const, false_implies, true_implies, false_or, or_false, true_or, or_true, i_le, i_lt, i_eq, i_eq0, i_lt0, i_0le, i_0lt, i_le0, i_in1, i_cl, nI_add, pk_mul, pk_sub, i_div, i_rem, i_sh1, i_bit, i_or, i_and, i_andn, nt_le, nf_le, nt_lt, nf_lt, nt_eq, nf_eq, not_true_eq_false, and_self, and_false, false_and, eq_self, Bool.toNat_true, Bool.toNat_false, i_bool, i_bool1, Bool.false_eq_true, Bool.true_eq_false, reduceCtorEq, i_neg1, i_neg2, i_neg3, i_neg4, i_neg5, i_neg6, i_neg7, i_neg8, i_neg9, i_nega, i_negb, i_negc, i_max2, i_min2, wi_nil]
      repeat (
        first
        | refine s_X9_tempt_0 ?_
        | refine s_X9_tempt_7 ?_
        | refine s_X9_tempt_10 ?_
        | refine s_X9_tempt_17 ?_
        | refine s_X9_tempt_24 ?_
        | refine s_X9_tempt_38 ?_
        | refine s_X9_tempt_41 ?_
        | refine s_X9_tempt_48 ?_
        | refine s_X9_tempt_65 ?_
        | refine s_X9_tempt_87 ?_
        | refine s_X9_tempt_88 ?_
        | refine s_X9_tempt_91 ?_
        | refine s_X9_tempt_98 ?_
        | refine s_X9_tempt_107 ?_
        | refine s_X9_tempt_130 ?_
        | refine s_X9_tempt_136 ?_
        | refine s_X9_tempt_165 ?_
        | refine s_X9_tempt_172 ?_
        | refine s_X9_tempt_173 ?_
        | refine s_X9_tempt_181 ?_
        simp (disch := omega) only [B_X9_tempt_0, wi_aload_n, wi_iload_n, wi_iconst, wi_invokestatic, B_X9_tempt_7, wi_invokevirtual, cnt_8, B_X9_tempt_10, wi_istore_n, wi_if_ge, wi_ireturn, B_X9_tempt_17, B_X9_tempt_19, B_X9_tempt_24, wi_icmp_ge, wi_getfield, fldv_8_34, fds_8_34, B_X9_tempt_38, B_X9_tempt_41, wi_iastore, wi_iinc, wi_goto, cnt_40, aTy_40, aLn_40, arr_40, cnt_49, aTy_49, aLn_49, arr_49, cnt_50, aTy_50, aLn_50, arr_50, B_X9_tempt_48, wi_isub, B_X9_tempt_52, wi_if_lt, wi_istore, B_X9_tempt_59, wi_iload, B_X9_tempt_65, fldv_8_35, fds_8_35, wi_irem, wi_if_ne, B_X9_tempt_87, B_X9_tempt_88, B_X9_tempt_91, B_X9_tempt_98, B_X9_tempt_101, B_X9_tempt_107, wi_iaload, B_X9_tempt_130, B_X9_tempt_136, fldv_8_10, fds_8_10, B_X9_tempt_146, wi_imul, fldv_8_20, fds_8_20, B_X9_tempt_165, wi_if_eq, B_X9_tempt_172, B_X9_tempt_173, wi_iadd, B_X9_tempt_181, no0, no1, nz1, nz2, nz3, nz4, nz5, nz7, nz8, Classical.not_not, bz0, bz1, wi_nil, ld_0, ld_s, isIv_I, isLv_L, isRv_R, true_and, and_true, lset_0, lset_1, lset_s, avw_I, avw_L, avw_R, clr_cons, clr_nil, kst_0, kst_1, kstL_0, kstL_1, addk_I, pA_0, pA_s, pD_0, pD_s, wid_nil, wid_cons, rcv_c, putv_I, putv_L, List.length_cons, List.length_nil, List.set_cons_zero, List.set_cons_succ, not_false_eq_true, Nat.reduceMod, Nat.reduceDiv, Nat.reduceEqDiff, Nat.reduceLT, Nat.reduceLeDiff, Nat.reduceAdd, Nat.reduceSub, reduceIte, Nat.lt_irrefl, Nat.zero_ne_one, Nat.one_ne_zero, Nat.zero_add, List.nil_append, List.cons_append, Option.toList_some, Option.toList_none, forall_const, false_implies, true_implies, false_or, or_false, true_or, or_true, i_le, i_lt, i_eq, i_eq0, i_lt0, i_0le, i_0lt, i_le0, i_in1, i_cl, nI_add, pk_mul, pk_sub, i_div, i_rem, i_sh1, i_bit, i_or, i_and, i_andn, nt_le, nf_le, nt_lt, nf_lt, nt_eq, nf_eq, not_true_eq_false, and_self, and_false, false_and, eq_self, Bool.toNat_true, Bool.toNat_false, i_bool, i_bool1, Bool.false_eq_true, Bool.true_eq_false, reduceCtorEq, i_neg1, i_neg2, i_neg3, i_neg4, i_neg5, i_neg6, i_neg7, i_neg8, i_neg9, i_nega, i_negb, i_negc, i_max2, i_min2])
      refine ih (c + 1) _ (by omega) (fun x hx2 => ?_) h49 (hf.trans (fr_sA rfl))
      rw [gA_same]
      by_cases e : x = c
      · subst e; rw [pk_us]
      · rw [pk_un e]
        exact hx x (by omega)
    refine s_X9_tempt_59 ?_
    simp (disch := omega) only [B_X9_tempt_59, wi_iload, wi_aload_n, wi_invokevirtual, cnt_8, no0, no1, nz1, nz2, nz3, nz4, nz5, nz7, nz8, Classical.not_not, bz0, bz1, wi_nil, ld_0, ld_s, isIv_I, isLv_L, isRv_R, true_and, and_true, lset_0, lset_1, lset_s, avw_I, avw_L, avw_R, clr_cons, clr_nil, kst_0, kst_1, kstL_0, kstL_1, addk_I, pA_0, pA_s, pD_0, pD_s, wid_nil, wid_cons, rcv_c, putv_I, putv_L, List.length_cons, List.length_nil, List.set_cons_zero, List.set_cons_succ, not_false_eq_true, Nat.reduceMod, Nat.reduceDiv, Nat.reduceEqDiff, Nat.reduceLT, Nat.reduceLeDiff, Nat.reduceAdd, Nat.reduceSub, reduceIte, Nat.lt_irrefl, Nat.zero_ne_one, Nat.one_ne_zero, Nat.zero_add, List.nil_append, List.cons_append, Option.toList_some, Option.toList_none, forall_const, false_implies, true_implies, false_or, or_false, true_or, or_true, i_le, i_lt, i_eq, i_eq0, i_lt0, i_0le, i_0lt, i_le0, i_in1, i_cl, nI_add, pk_mul, pk_sub, i_div, i_rem, i_sh1, i_bit, i_or, i_and, i_andn, nt_le, nf_le, nt_lt, nf_lt, nt_eq, nf_eq, not_true_eq_false, and_self, and_false, false_and, eq_self, Bool.toNat_true, Bool.toNat_false, i_bool, i_bool1, Bool.false_eq_true, Bool.true_eq_false, reduceCtorEq, i_neg1, i_neg2, i_neg3, i_neg4, i_neg5, i_neg6, i_neg7, i_neg8, i_neg9, i_nega, i_negb, i_negc, i_max2, i_min2]
    refine c_codes hm hn5 ?_
    rcases Nat.mod_two_eq_zero_or_one k with h | h
    · have ep : par k = true := decide_eq_true h
      rw [ep] at key
      try simp (disch := omega) only [no0, no1, nz1, nz2, nz3, nz4, nz5, nz7, nz8, Classical.not_not, bz0, bz1, wi_nil, ld_0, ld_s, isIv_I, isLv_L, isRv_R, true_and, and_true, lset_0, lset_1, lset_s, avw_I, avw_L, avw_R, clr_cons, clr_nil, kst_0, kst_1, kstL_0, kstL_1, addk_I, pA_0, pA_s, pD_0, pD_s, wid_nil, wid_cons, rcv_c, putv_I, putv_L, List.length_cons, List.length_nil, List.set_cons_zero, List.set_cons_succ, not_false_eq_true, Nat.reduceMod, Nat.reduceDiv, Nat.reduceEqDiff, Nat.reduceLT, Nat.reduceLeDiff, Nat.reduceAdd, Nat.reduceSub, reduceIte, Nat.lt_irrefl, Nat.zero_ne_one, Nat.one_ne_zero, Nat.zero_add, List.nil_append, List.cons_append, Option.toList_some, Option.toList_none, forall_const, false_implies, true_implies, false_or, or_false, true_or, or_true, i_le, i_lt, i_eq, i_eq0, i_lt0, i_0le, i_0lt, i_le0, i_in1, i_cl, nI_add, pk_mul, pk_sub, i_div, i_rem, i_sh1, i_bit, i_or, i_and, i_andn, nt_le, nf_le, nt_lt, nf_lt, nt_eq, nf_eq, not_true_eq_false, and_self, and_false, false_and, eq_self, Bool.toNat_true, Bool.toNat_false, i_bool, i_bool1, Bool.false_eq_true, Bool.true_eq_false, reduceCtorEq, i_neg1, i_neg2, i_neg3, i_neg4, i_neg5, i_neg6, i_neg7, i_neg8, i_neg9, i_nega, i_negb, i_negc, i_max2, i_min2, wi_nil]
      repeat (
        first
        | refine s_X9_tempt_0 ?_
        | refine s_X9_tempt_7 ?_
        | refine s_X9_tempt_10 ?_
        | refine s_X9_tempt_17 ?_
        | refine s_X9_tempt_24 ?_
        | refine s_X9_tempt_38 ?_
        | refine s_X9_tempt_41 ?_
        | refine s_X9_tempt_48 ?_
        | refine s_X9_tempt_65 ?_
        | refine s_X9_tempt_87 ?_
        | refine s_X9_tempt_91 ?_
        | refine s_X9_tempt_98 ?_
        | refine s_X9_tempt_107 ?_
        | refine s_X9_tempt_130 ?_
        | refine s_X9_tempt_136 ?_
        | refine s_X9_tempt_165 ?_
        | refine s_X9_tempt_172 ?_
        | refine s_X9_tempt_173 ?_
        | refine s_X9_tempt_181 ?_
        simp (disch := omega) only [B_X9_tempt_0, wi_aload_n, wi_iload_n, wi_iconst, wi_invokestatic, B_X9_tempt_7, wi_invokevirtual, cnt_8, B_X9_tempt_10, wi_istore_n, wi_if_ge, wi_ireturn, B_X9_tempt_17, B_X9_tempt_19, B_X9_tempt_24, wi_icmp_ge, wi_getfield, fldv_8_34, fds_8_34, B_X9_tempt_38, B_X9_tempt_41, wi_iastore, wi_iinc, wi_goto, cnt_40, aTy_40, aLn_40, arr_40, cnt_49, aTy_49, aLn_49, arr_49, cnt_50, aTy_50, aLn_50, arr_50, B_X9_tempt_48, wi_isub, B_X9_tempt_52, wi_if_lt, wi_istore, B_X9_tempt_59, wi_iload, B_X9_tempt_65, fldv_8_35, fds_8_35, wi_irem, wi_if_ne, B_X9_tempt_87, B_X9_tempt_88, B_X9_tempt_91, B_X9_tempt_98, B_X9_tempt_101, B_X9_tempt_107, wi_iaload, B_X9_tempt_130, B_X9_tempt_136, fldv_8_10, fds_8_10, B_X9_tempt_146, wi_imul, fldv_8_20, fds_8_20, B_X9_tempt_165, wi_if_eq, B_X9_tempt_172, B_X9_tempt_173, wi_iadd, B_X9_tempt_181, no0, no1, nz1, nz2, nz3, nz4, nz5, nz7, nz8, Classical.not_not, bz0, bz1, wi_nil, ld_0, ld_s, isIv_I, isLv_L, isRv_R, true_and, and_true, lset_0, lset_1, lset_s, avw_I, avw_L, avw_R, clr_cons, clr_nil, kst_0, kst_1, kstL_0, kstL_1, addk_I, pA_0, pA_s, pD_0, pD_s, wid_nil, wid_cons, rcv_c, putv_I, putv_L, List.length_cons, List.length_nil, List.set_cons_zero, List.set_cons_succ, not_false_eq_true, Nat.reduceMod, Nat.reduceDiv, Nat.reduceEqDiff, Nat.reduceLT, Nat.reduceLeDiff, Nat.reduceAdd, Nat.reduceSub, reduceIte, Nat.lt_irrefl, Nat.zero_ne_one, Nat.one_ne_zero, Nat.zero_add, List.nil_append, List.cons_append, Option.toList_some, Option.toList_none, forall_const, false_implies, true_implies, false_or, or_false, true_or, or_true, i_le, i_lt, i_eq, i_eq0, i_lt0, i_0le, i_0lt, i_le0, i_in1, i_cl, nI_add, pk_mul, pk_sub, i_div, i_rem, i_sh1, i_bit, i_or, i_and, i_andn, nt_le, nf_le, nt_lt, nf_lt, nt_eq, nf_eq, not_true_eq_false, and_self, and_false, false_and, eq_self, Bool.toNat_true, Bool.toNat_false, i_bool, i_bool1, Bool.false_eq_true, Bool.true_eq_false, reduceCtorEq, i_neg1, i_neg2, i_neg3, i_neg4, i_neg5, i_neg6, i_neg7, i_neg8, i_neg9, i_nega, i_negb, i_negc, i_max2, i_min2])
      exact key
    · have ep : par k = false := decide_eq_false (by omega)
      rw [ep] at key
      try simp (disch := omega) only [no0, no1, nz1, nz2, nz3, nz4, nz5, nz7, nz8, Classical.not_not, bz0, bz1, wi_nil, ld_0, ld_s, isIv_I, isLv_L, isRv_R, true_and, and_true, lset_0, lset_1, lset_s, avw_I, avw_L, avw_R, clr_cons, clr_nil, kst_0, kst_1, kstL_0, kstL_1, addk_I, pA_0, pA_s, pD_0, pD_s, wid_nil, wid_cons, rcv_c, putv_I, putv_L, List.length_cons, List.length_nil, List.set_cons_zero, List.set_cons_succ, not_false_eq_true, Nat.reduceMod, Nat.reduceDiv, Nat.reduceEqDiff, Nat.reduceLT, Nat.reduceLeDiff, Nat.reduceAdd, Nat.reduceSub, reduceIte, Nat.lt_irrefl, Nat.zero_ne_one, Nat.one_ne_zero, Nat.zero_add, List.nil_append, List.cons_append, Option.toList_some, Option.toList_none, forall_const, false_implies, true_implies, false_or, or_false, true_or, or_true, i_le, i_lt, i_eq, i_eq0, i_lt0, i_0le, i_0lt, i_le0, i_in1, i_cl, nI_add, pk_mul, pk_sub, i_div, i_rem, i_sh1, i_bit, i_or, i_and, i_andn, nt_le, nf_le, nt_lt, nf_lt, nt_eq, nf_eq, not_true_eq_false, and_self, and_false, false_and, eq_self, Bool.toNat_true, Bool.toNat_false, i_bool, i_bool1, Bool.false_eq_true, Bool.true_eq_false, reduceCtorEq, i_neg1, i_neg2, i_neg3, i_neg4, i_neg5, i_neg6, i_neg7, i_neg8, i_neg9, i_nega, i_negb, i_negc, i_max2, i_min2, wi_nil]
      repeat (
        first
        | refine s_X9_tempt_0 ?_
        | refine s_X9_tempt_7 ?_
        | refine s_X9_tempt_10 ?_
        | refine s_X9_tempt_17 ?_
        | refine s_X9_tempt_24 ?_
        | refine s_X9_tempt_38 ?_
        | refine s_X9_tempt_41 ?_
        | refine s_X9_tempt_48 ?_
        | refine s_X9_tempt_65 ?_
        | refine s_X9_tempt_87 ?_
        | refine s_X9_tempt_91 ?_
        | refine s_X9_tempt_98 ?_
        | refine s_X9_tempt_107 ?_
        | refine s_X9_tempt_130 ?_
        | refine s_X9_tempt_136 ?_
        | refine s_X9_tempt_165 ?_
        | refine s_X9_tempt_172 ?_
        | refine s_X9_tempt_173 ?_
        | refine s_X9_tempt_181 ?_
        simp (disch := omega) only [B_X9_tempt_0, wi_aload_n, wi_iload_n, wi_iconst, wi_invokestatic, B_X9_tempt_7, wi_invokevirtual, cnt_8, B_X9_tempt_10, wi_istore_n, wi_if_ge, wi_ireturn, B_X9_tempt_17, B_X9_tempt_19, B_X9_tempt_24, wi_icmp_ge, wi_getfield, fldv_8_34, fds_8_34, B_X9_tempt_38, B_X9_tempt_41, wi_iastore, wi_iinc, wi_goto, cnt_40, aTy_40, aLn_40, arr_40, cnt_49, aTy_49, aLn_49, arr_49, cnt_50, aTy_50, aLn_50, arr_50, B_X9_tempt_48, wi_isub, B_X9_tempt_52, wi_if_lt, wi_istore, B_X9_tempt_59, wi_iload, B_X9_tempt_65, fldv_8_35, fds_8_35, wi_irem, wi_if_ne, B_X9_tempt_87, B_X9_tempt_88, B_X9_tempt_91, B_X9_tempt_98, B_X9_tempt_101, B_X9_tempt_107, wi_iaload, B_X9_tempt_130, B_X9_tempt_136, fldv_8_10, fds_8_10, B_X9_tempt_146, wi_imul, fldv_8_20, fds_8_20, B_X9_tempt_165, wi_if_eq, B_X9_tempt_172, B_X9_tempt_173, wi_iadd, B_X9_tempt_181, no0, no1, nz1, nz2, nz3, nz4, nz5, nz7, nz8, Classical.not_not, bz0, bz1, wi_nil, ld_0, ld_s, isIv_I, isLv_L, isRv_R, true_and, and_true, lset_0, lset_1, lset_s, avw_I, avw_L, avw_R, clr_cons, clr_nil, kst_0, kst_1, kstL_0, kstL_1, addk_I, pA_0, pA_s, pD_0, pD_s, wid_nil, wid_cons, rcv_c, putv_I, putv_L, List.length_cons, List.length_nil, List.set_cons_zero, List.set_cons_succ, not_false_eq_true, Nat.reduceMod, Nat.reduceDiv, Nat.reduceEqDiff, Nat.reduceLT, Nat.reduceLeDiff, Nat.reduceAdd, Nat.reduceSub, reduceIte, Nat.lt_irrefl, Nat.zero_ne_one, Nat.one_ne_zero, Nat.zero_add, List.nil_append, List.cons_append, Option.toList_some, Option.toList_none, forall_const, false_implies, true_implies, false_or, or_false, true_or, or_true, i_le, i_lt, i_eq, i_eq0, i_lt0, i_0le, i_0lt, i_le0, i_in1, i_cl, nI_add, pk_mul, pk_sub, i_div, i_rem, i_sh1, i_bit, i_or, i_and, i_andn, nt_le, nf_le, nt_lt, nf_lt, nt_eq, nf_eq, not_true_eq_false, and_self, and_false, false_and, eq_self, Bool.toNat_true, Bool.toNat_false, i_bool, i_bool1, Bool.false_eq_true, Bool.true_eq_false, reduceCtorEq, i_neg1, i_neg2, i_neg3, i_neg4, i_neg5, i_neg6, i_neg7, i_neg8, i_neg9, i_nega, i_negb, i_negc, i_max2, i_min2])
      exact key
theorem l_t2 {F : Nat → Int32} {k : Nat} {S0 : MS} (hk : k < 6) (hm0 : YrM S0 40 Y) (ho : YOk 40 Y) (hF : ∀ x, x < 3 ^ Y 6 0 → gA S0 50 0 x = F x) (q : ∀ S2, (∀ x, x < 3 ^ Y 6 0 → gA S2 49 0 x = F x) → Fs S0 S2 → wpX (d + 9) mX9_tempt 130 [aR 8 0, aU, aU, aI (nI k), aU] [] S2 P) : ∀ (m c : Nat) (S : MS), c + m = 3 ^ Y 6 0 → (∀ x, x < c → gA S 49 0 x = F x) → gA S 50 0 = gA S0 50 0 → Fs S0 S → wpX (d + 9) mX9_tempt 101 [aR 8 0, aU, aU, aI (nI k), aI (nI c)] [] S P := by
  have hn5 := ho.1.1
  have h243 := p3_le hn5
  intro m
  induction m with
  | zero =>
    intro c S hc hx h50 hf
    have e : c = 3 ^ Y 6 0 := by omega
    have hm := yrm_fr hm0 hf rfl rfl
    refine s_X9_tempt_101 ?_
    simp (disch := omega) only [B_X9_tempt_101, wi_iload, wi_aload_n, wi_invokevirtual, cnt_8, no0, no1, nz1, nz2, nz3, nz4, nz5, nz7, nz8, Classical.not_not, bz0, bz1, wi_nil, ld_0, ld_s, isIv_I, isLv_L, isRv_R, true_and, and_true, lset_0, lset_1, lset_s, avw_I, avw_L, avw_R, clr_cons, clr_nil, kst_0, kst_1, kstL_0, kstL_1, addk_I, pA_0, pA_s, pD_0, pD_s, wid_nil, wid_cons, rcv_c, putv_I, putv_L, List.length_cons, List.length_nil, List.set_cons_zero, List.set_cons_succ, not_false_eq_true, Nat.reduceMod, Nat.reduceDiv, Nat.reduceEqDiff, Nat.reduceLT, Nat.reduceLeDiff, Nat.reduceAdd, Nat.reduceSub, reduceIte, Nat.lt_irrefl, Nat.zero_ne_one, Nat.one_ne_zero, Nat.zero_add, List.nil_append, List.cons_append, Option.toList_some, Option.toList_none, forall_const, false_implies, true_implies, false_or, or_false, true_or, or_true, i_le, i_lt, i_eq, i_eq0, i_lt0, i_0le, i_0lt, i_le0, i_in1, i_cl, nI_add, pk_mul, pk_sub, i_div, i_rem, i_sh1, i_bit, i_or, i_and, i_andn, nt_le, nf_le, nt_lt, nf_lt, nt_eq, nf_eq, not_true_eq_false, and_self, and_false, false_and, eq_self, Bool.toNat_true, Bool.toNat_false, i_bool, i_bool1, Bool.false_eq_true, Bool.true_eq_false, reduceCtorEq, i_neg1, i_neg2, i_neg3, i_neg4, i_neg5, i_neg6, i_neg7, i_neg8, i_neg9, i_nega, i_negb, i_negc, i_max2, i_min2]
    refine c_codes hm hn5 ?_
    try simp (disch := omega) only [no0, no1, nz1, nz2, nz3, nz4, nz5, nz7, nz8, Classical.not_not, bz0, bz1, wi_nil, ld_0, ld_s, isIv_I, isLv_L, isRv_R, true_and, and_true, lset_0, lset_1, lset_s, avw_I, avw_L, avw_R, clr_cons, clr_nil, kst_0, kst_1, kstL_0, kstL_1, addk_I, pA_0, pA_s, pD_0, pD_s, wid_nil, wid_cons, rcv_c, putv_I, putv_L, List.length_cons, List.length_nil, List.set_cons_zero, List.set_cons_succ, not_false_eq_true, Nat.reduceMod, Nat.reduceDiv, Nat.reduceEqDiff, Nat.reduceLT, Nat.reduceLeDiff, Nat.reduceAdd, Nat.reduceSub, reduceIte, Nat.lt_irrefl, Nat.zero_ne_one, Nat.one_ne_zero, Nat.zero_add, List.nil_append, List.cons_append, Option.toList_some, Option.toList_none, forall_const, false_implies, true_implies, false_or, or_false, true_or, or_true, i_le, i_lt, i_eq, i_eq0, i_lt0, i_0le, i_0lt, i_le0, i_in1, i_cl, nI_add, pk_mul, pk_sub, i_div, i_rem, i_sh1, i_bit, i_or, i_and, i_andn, nt_le, nf_le, nt_lt, nf_lt, nt_eq, nf_eq, not_true_eq_false, and_self, and_false, false_and, eq_self, Bool.toNat_true, Bool.toNat_false, i_bool, i_bool1, Bool.false_eq_true, Bool.true_eq_false, reduceCtorEq, i_neg1, i_neg2, i_neg3, i_neg4, i_neg5, i_neg6, i_neg7, i_neg8, i_neg9, i_nega, i_negb, i_negc, i_max2, i_min2, wi_nil]
    repeat (
      first
      | refine s_X9_tempt_0 ?_
      | refine s_X9_tempt_7 ?_
      | refine s_X9_tempt_10 ?_
      | refine s_X9_tempt_17 ?_
      | refine s_X9_tempt_24 ?_
      | refine s_X9_tempt_38 ?_
      | refine s_X9_tempt_41 ?_
      | refine s_X9_tempt_48 ?_
      | refine s_X9_tempt_65 ?_
      | refine s_X9_tempt_87 ?_
      | refine s_X9_tempt_88 ?_
      | refine s_X9_tempt_91 ?_
      | refine s_X9_tempt_98 ?_
      | refine s_X9_tempt_107 ?_
      | refine s_X9_tempt_136 ?_
      | refine s_X9_tempt_165 ?_
      | refine s_X9_tempt_172 ?_
      | refine s_X9_tempt_173 ?_
      | refine s_X9_tempt_181 ?_
      simp (disch := omega) only [B_X9_tempt_0, wi_aload_n, wi_iload_n, wi_iconst, wi_invokestatic, B_X9_tempt_7, wi_invokevirtual, cnt_8, B_X9_tempt_10, wi_istore_n, wi_if_ge, wi_ireturn, B_X9_tempt_17, B_X9_tempt_19, B_X9_tempt_24, wi_icmp_ge, wi_getfield, fldv_8_34, fds_8_34, B_X9_tempt_38, B_X9_tempt_41, wi_iastore, wi_iinc, wi_goto, cnt_40, aTy_40, aLn_40, arr_40, cnt_49, aTy_49, aLn_49, arr_49, cnt_50, aTy_50, aLn_50, arr_50, B_X9_tempt_48, wi_isub, B_X9_tempt_52, wi_if_lt, wi_istore, B_X9_tempt_59, wi_iload, B_X9_tempt_65, fldv_8_35, fds_8_35, wi_irem, wi_if_ne, B_X9_tempt_87, B_X9_tempt_88, B_X9_tempt_91, B_X9_tempt_98, B_X9_tempt_101, B_X9_tempt_107, wi_iaload, B_X9_tempt_130, B_X9_tempt_136, fldv_8_10, fds_8_10, B_X9_tempt_146, wi_imul, fldv_8_20, fds_8_20, B_X9_tempt_165, wi_if_eq, B_X9_tempt_172, B_X9_tempt_173, wi_iadd, B_X9_tempt_181, no0, no1, nz1, nz2, nz3, nz4, nz5, nz7, nz8, Classical.not_not, bz0, bz1, wi_nil, ld_0, ld_s, isIv_I, isLv_L, isRv_R, true_and, and_true, lset_0, lset_1, lset_s, avw_I, avw_L, avw_R, clr_cons, clr_nil, kst_0, kst_1, kstL_0, kstL_1, addk_I, pA_0, pA_s, pD_0, pD_s, wid_nil, wid_cons, rcv_c, putv_I, putv_L, List.length_cons, List.length_nil, List.set_cons_zero, List.set_cons_succ, not_false_eq_true, Nat.reduceMod, Nat.reduceDiv, Nat.reduceEqDiff, Nat.reduceLT, Nat.reduceLeDiff, Nat.reduceAdd, Nat.reduceSub, reduceIte, Nat.lt_irrefl, Nat.zero_ne_one, Nat.one_ne_zero, Nat.zero_add, List.nil_append, List.cons_append, Option.toList_some, Option.toList_none, forall_const, false_implies, true_implies, false_or, or_false, true_or, or_true, i_le, i_lt, i_eq, i_eq0, i_lt0, i_0le, i_0lt, i_le0, i_in1, i_cl, nI_add, pk_mul, pk_sub, i_div, i_rem, i_sh1, i_bit, i_or, i_and, i_andn, nt_le, nf_le, nt_lt, nf_lt, nt_eq, nf_eq, not_true_eq_false, and_self, and_false, false_and, eq_self, Bool.toNat_true, Bool.toNat_false, i_bool, i_bool1, Bool.false_eq_true, Bool.true_eq_false, reduceCtorEq, i_neg1, i_neg2, i_neg3, i_neg4, i_neg5, i_neg6, i_neg7, i_neg8, i_neg9, i_nega, i_negb, i_negc, i_max2, i_min2])
    exact q S (fun x hx2 => hx x (by omega)) hf
  | succ m ih =>
    intro c S hc hx h50 hf
    have hm := yrm_fr hm0 hf rfl rfl
    have hFc : gA S 50 0 c = F c := by rw [h50]; exact hF c (by omega)
    refine s_X9_tempt_101 ?_
    simp (disch := omega) only [B_X9_tempt_101, wi_iload, wi_aload_n, wi_invokevirtual, cnt_8, no0, no1, nz1, nz2, nz3, nz4, nz5, nz7, nz8, Classical.not_not, bz0, bz1, wi_nil, ld_0, ld_s, isIv_I, isLv_L, isRv_R, true_and, and_true, lset_0, lset_1, lset_s, avw_I, avw_L, avw_R, clr_cons, clr_nil, kst_0, kst_1, kstL_0, kstL_1, addk_I, pA_0, pA_s, pD_0, pD_s, wid_nil, wid_cons, rcv_c, putv_I, putv_L, List.length_cons, List.length_nil, List.set_cons_zero, List.set_cons_succ, not_false_eq_true, Nat.reduceMod, Nat.reduceDiv, Nat.reduceEqDiff, Nat.reduceLT, Nat.reduceLeDiff, Nat.reduceAdd, Nat.reduceSub, reduceIte, Nat.lt_irrefl, Nat.zero_ne_one, Nat.one_ne_zero, Nat.zero_add, List.nil_append, List.cons_append, Option.toList_some, Option.toList_none, forall_const, false_implies, true_implies, false_or, or_false, true_or, or_true, i_le, i_lt, i_eq, i_eq0, i_lt0, i_0le, i_0lt, i_le0, i_in1, i_cl, nI_add, pk_mul, pk_sub, i_div, i_rem, i_sh1, i_bit, i_or, i_and, i_andn, nt_le, nf_le, nt_lt, nf_lt, nt_eq, nf_eq, not_true_eq_false, and_self, and_false, false_and, eq_self, Bool.toNat_true, Bool.toNat_false, i_bool, i_bool1, Bool.false_eq_true, Bool.true_eq_false, reduceCtorEq, i_neg1, i_neg2, i_neg3, i_neg4, i_neg5, i_neg6, i_neg7, i_neg8, i_neg9, i_nega, i_negb, i_negc, i_max2, i_min2]
    refine c_codes hm hn5 ?_
    try simp (disch := omega) only [no0, no1, nz1, nz2, nz3, nz4, nz5, nz7, nz8, Classical.not_not, bz0, bz1, wi_nil, ld_0, ld_s, isIv_I, isLv_L, isRv_R, true_and, and_true, lset_0, lset_1, lset_s, avw_I, avw_L, avw_R, clr_cons, clr_nil, kst_0, kst_1, kstL_0, kstL_1, addk_I, pA_0, pA_s, pD_0, pD_s, wid_nil, wid_cons, rcv_c, putv_I, putv_L, List.length_cons, List.length_nil, List.set_cons_zero, List.set_cons_succ, not_false_eq_true, Nat.reduceMod, Nat.reduceDiv, Nat.reduceEqDiff, Nat.reduceLT, Nat.reduceLeDiff, Nat.reduceAdd, Nat.reduceSub, reduceIte, Nat.lt_irrefl, Nat.zero_ne_one, Nat.one_ne_zero, Nat.zero_add, List.nil_append, List.cons_append, Option.toList_some, Option.toList_none, forall_const, false_implies, true_implies, false_or, or_false, true_or, or_true, i_le, i_lt, i_eq, i_eq0, i_lt0, i_0le, i_0lt, i_le0, i_in1, i_cl, nI_add, pk_mul, pk_sub, i_div, i_rem, i_sh1, i_bit, i_or, i_and, i_andn, nt_le, nf_le, nt_lt, nf_lt, nt_eq, nf_eq, not_true_eq_false, and_self, and_false, false_and, eq_self, Bool.toNat_true, Bool.toNat_false, i_bool, i_bool1, Bool.false_eq_true, Bool.true_eq_false, reduceCtorEq, i_neg1, i_neg2, i_neg3, i_neg4, i_neg5, i_neg6, i_neg7, i_neg8, i_neg9, i_nega, i_negb, i_negc, i_max2, i_min2, hFc, wi_nil]
    repeat (
      first
      | refine s_X9_tempt_0 ?_
      | refine s_X9_tempt_7 ?_
      | refine s_X9_tempt_10 ?_
      | refine s_X9_tempt_17 ?_
      | refine s_X9_tempt_24 ?_
      | refine s_X9_tempt_38 ?_
      | refine s_X9_tempt_41 ?_
      | refine s_X9_tempt_48 ?_
      | refine s_X9_tempt_65 ?_
      | refine s_X9_tempt_87 ?_
      | refine s_X9_tempt_88 ?_
      | refine s_X9_tempt_91 ?_
      | refine s_X9_tempt_98 ?_
      | refine s_X9_tempt_107 ?_
      | refine s_X9_tempt_130 ?_
      | refine s_X9_tempt_136 ?_
      | refine s_X9_tempt_165 ?_
      | refine s_X9_tempt_172 ?_
      | refine s_X9_tempt_173 ?_
      | refine s_X9_tempt_181 ?_
      simp (disch := omega) only [B_X9_tempt_0, wi_aload_n, wi_iload_n, wi_iconst, wi_invokestatic, B_X9_tempt_7, wi_invokevirtual, cnt_8, B_X9_tempt_10, wi_istore_n, wi_if_ge, wi_ireturn, B_X9_tempt_17, B_X9_tempt_19, B_X9_tempt_24, wi_icmp_ge, wi_getfield, fldv_8_34, fds_8_34, B_X9_tempt_38, B_X9_tempt_41, wi_iastore, wi_iinc, wi_goto, cnt_40, aTy_40, aLn_40, arr_40, cnt_49, aTy_49, aLn_49, arr_49, cnt_50, aTy_50, aLn_50, arr_50, B_X9_tempt_48, wi_isub, B_X9_tempt_52, wi_if_lt, wi_istore, B_X9_tempt_59, wi_iload, B_X9_tempt_65, fldv_8_35, fds_8_35, wi_irem, wi_if_ne, B_X9_tempt_87, B_X9_tempt_88, B_X9_tempt_91, B_X9_tempt_98, B_X9_tempt_101, B_X9_tempt_107, wi_iaload, B_X9_tempt_130, B_X9_tempt_136, fldv_8_10, fds_8_10, B_X9_tempt_146, wi_imul, fldv_8_20, fds_8_20, B_X9_tempt_165, wi_if_eq, B_X9_tempt_172, B_X9_tempt_173, wi_iadd, B_X9_tempt_181, no0, no1, nz1, nz2, nz3, nz4, nz5, nz7, nz8, Classical.not_not, bz0, bz1, wi_nil, ld_0, ld_s, isIv_I, isLv_L, isRv_R, true_and, and_true, lset_0, lset_1, lset_s, avw_I, avw_L, avw_R, clr_cons, clr_nil, kst_0, kst_1, kstL_0, kstL_1, addk_I, pA_0, pA_s, pD_0, pD_s, wid_nil, wid_cons, rcv_c, putv_I, putv_L, List.length_cons, List.length_nil, List.set_cons_zero, List.set_cons_succ, not_false_eq_true, Nat.reduceMod, Nat.reduceDiv, Nat.reduceEqDiff, Nat.reduceLT, Nat.reduceLeDiff, Nat.reduceAdd, Nat.reduceSub, reduceIte, Nat.lt_irrefl, Nat.zero_ne_one, Nat.one_ne_zero, Nat.zero_add, List.nil_append, List.cons_append, Option.toList_some, Option.toList_none, forall_const, false_implies, true_implies, false_or, or_false, true_or, or_true, i_le, i_lt, i_eq, i_eq0, i_lt0, i_0le, i_0lt, i_le0, i_in1, i_cl, nI_add, pk_mul, pk_sub, i_div, i_rem, i_sh1, i_bit, i_or, i_and, i_andn, nt_le, nf_le, nt_lt, nf_lt, nt_eq, nf_eq, not_true_eq_false, and_self, and_false, false_and, eq_self, Bool.toNat_true, Bool.toNat_false, i_bool, i_bool1, Bool.false_eq_true, Bool.true_eq_false, reduceCtorEq, i_neg1, i_neg2, i_neg3, i_neg4, i_neg5, i_neg6, i_neg7, i_neg8, i_neg9, i_nega, i_negb, i_negc, i_max2, i_min2, hFc])
    refine ih (c + 1) _ (by omega) (fun x hx2 => ?_) h50 (hf.trans (fr_sA rfl))
    rw [gA_same]
    by_cases e : x = c
    · subst e; rw [pk_us]
    · rw [pk_un e]
      exact hx x (by omega)
theorem l_t3 {v : Nat} {S0 : MS} (hv : v ≤ 5) (hm0 : YrM S0 40 Y) (ho : YOk 40 Y) (q : ∀ S2, (∀ x, x < 3 ^ Y 6 0 → gA S2 49 0 x = nI (tE Y v (par 0) x)) → Fs S0 S2 → wpX (d + 9) mX9_tempt 136 [aR 8 0, aU, aU, aU, aU] [] S2 P) : ∀ (k : Nat) (S : MS), k ≤ v → (∀ x, x < 3 ^ Y 6 0 → gA S 49 0 x = nI (tE Y (v - k) (par k) x)) → Fs S0 S → wpX (d + 9) mX9_tempt 52 [aR 8 0, aU, aU, aI (tI k), aU] [] S P := by
  intro k
  induction k with
  | zero =>
    intro S hk hx hf
    have e1 : tI 0 = -nI 1 := rfl
    rw [e1]
    refine s_X9_tempt_52 ?_
    simp (disch := omega) only [B_X9_tempt_52, wi_iload_n, wi_if_lt, wi_iconst, wi_istore, no0, no1, nz1, nz2, nz3, nz4, nz5, nz7, nz8, Classical.not_not, bz0, bz1, wi_nil, ld_0, ld_s, isIv_I, isLv_L, isRv_R, true_and, and_true, lset_0, lset_1, lset_s, avw_I, avw_L, avw_R, clr_cons, clr_nil, kst_0, kst_1, kstL_0, kstL_1, addk_I, pA_0, pA_s, pD_0, pD_s, wid_nil, wid_cons, rcv_c, putv_I, putv_L, List.length_cons, List.length_nil, List.set_cons_zero, List.set_cons_succ, not_false_eq_true, Nat.reduceMod, Nat.reduceDiv, Nat.reduceEqDiff, Nat.reduceLT, Nat.reduceLeDiff, Nat.reduceAdd, Nat.reduceSub, reduceIte, Nat.lt_irrefl, Nat.zero_ne_one, Nat.one_ne_zero, Nat.zero_add, List.nil_append, List.cons_append, Option.toList_some, Option.toList_none, forall_const, false_implies, true_implies, false_or, or_false, true_or, or_true, i_le, i_lt, i_eq, i_eq0, i_lt0, i_0le, i_0lt, i_le0, i_in1, i_cl, nI_add, pk_mul, pk_sub, i_div, i_rem, i_sh1, i_bit, i_or, i_and, i_andn, nt_le, nf_le, nt_lt, nf_lt, nt_eq, nf_eq, not_true_eq_false, and_self, and_false, false_and, eq_self, Bool.toNat_true, Bool.toNat_false, i_bool, i_bool1, Bool.false_eq_true, Bool.true_eq_false, reduceCtorEq, i_neg1, i_neg2, i_neg3, i_neg4, i_neg5, i_neg6, i_neg7, i_neg8, i_neg9, i_nega, i_negb, i_negc, i_max2, i_min2]
    exact q S hx hf
  | succ k ih =>
    intro S hk hx hf
    have e1 : tI (k + 1) = nI k := by unfold tI; rw [if_neg (by omega)]; rfl
    have e2 := tI_dec (k := k) (by omega)
    have hm := yrm_fr hm0 hf rfl rfl
    rw [par_s] at hx
    rw [e1]
    refine s_X9_tempt_52 ?_
    simp (disch := omega) only [B_X9_tempt_52, wi_iload_n, wi_if_lt, wi_iconst, wi_istore, no0, no1, nz1, nz2, nz3, nz4, nz5, nz7, nz8, Classical.not_not, bz0, bz1, wi_nil, ld_0, ld_s, isIv_I, isLv_L, isRv_R, true_and, and_true, lset_0, lset_1, lset_s, avw_I, avw_L, avw_R, clr_cons, clr_nil, kst_0, kst_1, kstL_0, kstL_1, addk_I, pA_0, pA_s, pD_0, pD_s, wid_nil, wid_cons, rcv_c, putv_I, putv_L, List.length_cons, List.length_nil, List.set_cons_zero, List.set_cons_succ, not_false_eq_true, Nat.reduceMod, Nat.reduceDiv, Nat.reduceEqDiff, Nat.reduceLT, Nat.reduceLeDiff, Nat.reduceAdd, Nat.reduceSub, reduceIte, Nat.lt_irrefl, Nat.zero_ne_one, Nat.one_ne_zero, Nat.zero_add, List.nil_append, List.cons_append, Option.toList_some, Option.toList_none, forall_const, false_implies, true_implies, false_or, or_false, true_or, or_true, i_le, i_lt, i_eq, i_eq0, i_lt0, i_0le, i_0lt, i_le0, i_in1, i_cl, nI_add, pk_mul, pk_sub, i_div, i_rem, i_sh1, i_bit, i_or, i_and, i_andn, nt_le, nf_le, nt_lt, nf_lt, nt_eq, nf_eq, not_true_eq_false, and_self, and_false, false_and, eq_self, Bool.toNat_true, Bool.toNat_false, i_bool, i_bool1, Bool.false_eq_true, Bool.true_eq_false, reduceCtorEq, i_neg1, i_neg2, i_neg3, i_neg4, i_neg5, i_neg6, i_neg7, i_neg8, i_neg9, i_nega, i_negb, i_negc, i_max2, i_min2]
    refine l_t1 (S0 := S) (k := k) (j := v - (k + 1)) (by omega) hm ho (by omega) hx (fun S2 g2 f2 => ?_) (3 ^ Y 6 0) 0 S (by omega) (fun x h => absurd h (Nat.not_lt_zero x)) rfl Fr.refl
    rw [show v - (k + 1) + 1 = v - k by omega] at g2
    have hm2 := yrm_fr hm f2 rfl rfl
    try simp (disch := omega) only [no0, no1, nz1, nz2, nz3, nz4, nz5, nz7, nz8, Classical.not_not, bz0, bz1, wi_nil, ld_0, ld_s, isIv_I, isLv_L, isRv_R, true_and, and_true, lset_0, lset_1, lset_s, avw_I, avw_L, avw_R, clr_cons, clr_nil, kst_0, kst_1, kstL_0, kstL_1, addk_I, pA_0, pA_s, pD_0, pD_s, wid_nil, wid_cons, rcv_c, putv_I, putv_L, List.length_cons, List.length_nil, List.set_cons_zero, List.set_cons_succ, not_false_eq_true, Nat.reduceMod, Nat.reduceDiv, Nat.reduceEqDiff, Nat.reduceLT, Nat.reduceLeDiff, Nat.reduceAdd, Nat.reduceSub, reduceIte, Nat.lt_irrefl, Nat.zero_ne_one, Nat.one_ne_zero, Nat.zero_add, List.nil_append, List.cons_append, Option.toList_some, Option.toList_none, forall_const, false_implies, true_implies, false_or, or_false, true_or, or_true, i_le, i_lt, i_eq, i_eq0, i_lt0, i_0le, i_0lt, i_le0, i_in1, i_cl, nI_add, pk_mul, pk_sub, i_div, i_rem, i_sh1, i_bit, i_or, i_and, i_andn, nt_le, nf_le, nt_lt, nf_lt, nt_eq, nf_eq, not_true_eq_false, and_self, and_false, false_and, eq_self, Bool.toNat_true, Bool.toNat_false, i_bool, i_bool1, Bool.false_eq_true, Bool.true_eq_false, reduceCtorEq, i_neg1, i_neg2, i_neg3, i_neg4, i_neg5, i_neg6, i_neg7, i_neg8, i_neg9, i_nega, i_negb, i_negc, i_max2, i_min2, wi_nil]
    repeat (
      first
      | refine s_X9_tempt_0 ?_
      | refine s_X9_tempt_7 ?_
      | refine s_X9_tempt_10 ?_
      | refine s_X9_tempt_17 ?_
      | refine s_X9_tempt_24 ?_
      | refine s_X9_tempt_38 ?_
      | refine s_X9_tempt_41 ?_
      | refine s_X9_tempt_48 ?_
      | refine s_X9_tempt_65 ?_
      | refine s_X9_tempt_87 ?_
      | refine s_X9_tempt_88 ?_
      | refine s_X9_tempt_91 ?_
      | refine s_X9_tempt_98 ?_
      | refine s_X9_tempt_107 ?_
      | refine s_X9_tempt_130 ?_
      | refine s_X9_tempt_136 ?_
      | refine s_X9_tempt_165 ?_
      | refine s_X9_tempt_172 ?_
      | refine s_X9_tempt_173 ?_
      | refine s_X9_tempt_181 ?_
      simp (disch := omega) only [B_X9_tempt_0, wi_aload_n, wi_iload_n, wi_iconst, wi_invokestatic, B_X9_tempt_7, wi_invokevirtual, cnt_8, B_X9_tempt_10, wi_istore_n, wi_if_ge, wi_ireturn, B_X9_tempt_17, B_X9_tempt_19, B_X9_tempt_24, wi_icmp_ge, wi_getfield, fldv_8_34, fds_8_34, B_X9_tempt_38, B_X9_tempt_41, wi_iastore, wi_iinc, wi_goto, cnt_40, aTy_40, aLn_40, arr_40, cnt_49, aTy_49, aLn_49, arr_49, cnt_50, aTy_50, aLn_50, arr_50, B_X9_tempt_48, wi_isub, B_X9_tempt_52, wi_if_lt, wi_istore, B_X9_tempt_59, wi_iload, B_X9_tempt_65, fldv_8_35, fds_8_35, wi_irem, wi_if_ne, B_X9_tempt_87, B_X9_tempt_88, B_X9_tempt_91, B_X9_tempt_98, B_X9_tempt_101, B_X9_tempt_107, wi_iaload, B_X9_tempt_130, B_X9_tempt_136, fldv_8_10, fds_8_10, B_X9_tempt_146, wi_imul, fldv_8_20, fds_8_20, B_X9_tempt_165, wi_if_eq, B_X9_tempt_172, B_X9_tempt_173, wi_iadd, B_X9_tempt_181, no0, no1, nz1, nz2, nz3, nz4, nz5, nz7, nz8, Classical.not_not, bz0, bz1, wi_nil, ld_0, ld_s, isIv_I, isLv_L, isRv_R, true_and, and_true, lset_0, lset_1, lset_s, avw_I, avw_L, avw_R, clr_cons, clr_nil, kst_0, kst_1, kstL_0, kstL_1, addk_I, pA_0, pA_s, pD_0, pD_s, wid_nil, wid_cons, rcv_c, putv_I, putv_L, List.length_cons, List.length_nil, List.set_cons_zero, List.set_cons_succ, not_false_eq_true, Nat.reduceMod, Nat.reduceDiv, Nat.reduceEqDiff, Nat.reduceLT, Nat.reduceLeDiff, Nat.reduceAdd, Nat.reduceSub, reduceIte, Nat.lt_irrefl, Nat.zero_ne_one, Nat.one_ne_zero, Nat.zero_add, List.nil_append, List.cons_append, Option.toList_some, Option.toList_none, forall_const, false_implies, true_implies, false_or, or_false, true_or, or_true, i_le, i_lt, i_eq, i_eq0, i_lt0, i_0le, i_0lt, i_le0, i_in1, i_cl, nI_add, pk_mul, pk_sub, i_div, i_rem, i_sh1, i_bit, i_or, i_and, i_andn, nt_le, nf_le, nt_lt, nf_lt, nt_eq, nf_eq, not_true_eq_false, and_self, and_false, false_and, eq_self, Bool.toNat_true, Bool.toNat_false, i_bool, i_bool1, Bool.false_eq_true, Bool.true_eq_false, reduceCtorEq, i_neg1, i_neg2, i_neg3, i_neg4, i_neg5, i_neg6, i_neg7, i_neg8, i_neg9, i_nega, i_negb, i_negc, i_max2, i_min2])
    refine l_t2 (S0 := S2) (k := k) (F := fun x => nI (tE Y (v - k) (par k) x)) (by omega) hm2 ho g2 (fun S3 g3 f3 => ?_) (3 ^ Y 6 0) 0 S2 (by omega) (fun x h => absurd h (Nat.not_lt_zero x)) rfl Fr.refl
    try simp (disch := omega) only [no0, no1, nz1, nz2, nz3, nz4, nz5, nz7, nz8, Classical.not_not, bz0, bz1, wi_nil, ld_0, ld_s, isIv_I, isLv_L, isRv_R, true_and, and_true, lset_0, lset_1, lset_s, avw_I, avw_L, avw_R, clr_cons, clr_nil, kst_0, kst_1, kstL_0, kstL_1, addk_I, pA_0, pA_s, pD_0, pD_s, wid_nil, wid_cons, rcv_c, putv_I, putv_L, List.length_cons, List.length_nil, List.set_cons_zero, List.set_cons_succ, not_false_eq_true, Nat.reduceMod, Nat.reduceDiv, Nat.reduceEqDiff, Nat.reduceLT, Nat.reduceLeDiff, Nat.reduceAdd, Nat.reduceSub, reduceIte, Nat.lt_irrefl, Nat.zero_ne_one, Nat.one_ne_zero, Nat.zero_add, List.nil_append, List.cons_append, Option.toList_some, Option.toList_none, forall_const, false_implies, true_implies, false_or, or_false, true_or, or_true, i_le, i_lt, i_eq, i_eq0, i_lt0, i_0le, i_0lt, i_le0, i_in1, i_cl, nI_add, pk_mul, pk_sub, i_div, i_rem, i_sh1, i_bit, i_or, i_and, i_andn, nt_le, nf_le, nt_lt, nf_lt, nt_eq, nf_eq, not_true_eq_false, and_self, and_false, false_and, eq_self, Bool.toNat_true, Bool.toNat_false, i_bool, i_bool1, Bool.false_eq_true, Bool.true_eq_false, reduceCtorEq, i_neg1, i_neg2, i_neg3, i_neg4, i_neg5, i_neg6, i_neg7, i_neg8, i_neg9, i_nega, i_negb, i_negc, i_max2, i_min2, e2, wi_nil]
    repeat (
      first
      | refine s_X9_tempt_0 ?_
      | refine s_X9_tempt_7 ?_
      | refine s_X9_tempt_10 ?_
      | refine s_X9_tempt_17 ?_
      | refine s_X9_tempt_24 ?_
      | refine s_X9_tempt_38 ?_
      | refine s_X9_tempt_41 ?_
      | refine s_X9_tempt_48 ?_
      | refine s_X9_tempt_65 ?_
      | refine s_X9_tempt_87 ?_
      | refine s_X9_tempt_88 ?_
      | refine s_X9_tempt_91 ?_
      | refine s_X9_tempt_98 ?_
      | refine s_X9_tempt_107 ?_
      | refine s_X9_tempt_130 ?_
      | refine s_X9_tempt_136 ?_
      | refine s_X9_tempt_165 ?_
      | refine s_X9_tempt_172 ?_
      | refine s_X9_tempt_173 ?_
      | refine s_X9_tempt_181 ?_
      simp (disch := omega) only [B_X9_tempt_0, wi_aload_n, wi_iload_n, wi_iconst, wi_invokestatic, B_X9_tempt_7, wi_invokevirtual, cnt_8, B_X9_tempt_10, wi_istore_n, wi_if_ge, wi_ireturn, B_X9_tempt_17, B_X9_tempt_19, B_X9_tempt_24, wi_icmp_ge, wi_getfield, fldv_8_34, fds_8_34, B_X9_tempt_38, B_X9_tempt_41, wi_iastore, wi_iinc, wi_goto, cnt_40, aTy_40, aLn_40, arr_40, cnt_49, aTy_49, aLn_49, arr_49, cnt_50, aTy_50, aLn_50, arr_50, B_X9_tempt_48, wi_isub, B_X9_tempt_52, wi_if_lt, wi_istore, B_X9_tempt_59, wi_iload, B_X9_tempt_65, fldv_8_35, fds_8_35, wi_irem, wi_if_ne, B_X9_tempt_87, B_X9_tempt_88, B_X9_tempt_91, B_X9_tempt_98, B_X9_tempt_101, B_X9_tempt_107, wi_iaload, B_X9_tempt_130, B_X9_tempt_136, fldv_8_10, fds_8_10, B_X9_tempt_146, wi_imul, fldv_8_20, fds_8_20, B_X9_tempt_165, wi_if_eq, B_X9_tempt_172, B_X9_tempt_173, wi_iadd, B_X9_tempt_181, no0, no1, nz1, nz2, nz3, nz4, nz5, nz7, nz8, Classical.not_not, bz0, bz1, wi_nil, ld_0, ld_s, isIv_I, isLv_L, isRv_R, true_and, and_true, lset_0, lset_1, lset_s, avw_I, avw_L, avw_R, clr_cons, clr_nil, kst_0, kst_1, kstL_0, kstL_1, addk_I, pA_0, pA_s, pD_0, pD_s, wid_nil, wid_cons, rcv_c, putv_I, putv_L, List.length_cons, List.length_nil, List.set_cons_zero, List.set_cons_succ, not_false_eq_true, Nat.reduceMod, Nat.reduceDiv, Nat.reduceEqDiff, Nat.reduceLT, Nat.reduceLeDiff, Nat.reduceAdd, Nat.reduceSub, reduceIte, Nat.lt_irrefl, Nat.zero_ne_one, Nat.one_ne_zero, Nat.zero_add, List.nil_append, List.cons_append, Option.toList_some, Option.toList_none, forall_const, false_implies, true_implies, false_or, or_false, true_or, or_true, i_le, i_lt, i_eq, i_eq0, i_lt0, i_0le, i_0lt, i_le0, i_in1, i_cl, nI_add, pk_mul, pk_sub, i_div, i_rem, i_sh1, i_bit, i_or, i_and, i_andn, nt_le, nf_le, nt_lt, nf_lt, nt_eq, nf_eq, not_true_eq_false, and_self, and_false, false_and, eq_self, Bool.toNat_true, Bool.toNat_false, i_bool, i_bool1, Bool.false_eq_true, Bool.true_eq_false, reduceCtorEq, i_neg1, i_neg2, i_neg3, i_neg4, i_neg5, i_neg6, i_neg7, i_neg8, i_neg9, i_nega, i_negb, i_negc, i_max2, i_min2, e2])
    exact ih S3 (by omega) g3 ((hf.trans f2).trans f3)
theorem l_t4 (hm : YrM S 40 Y) (ho : YOk 40 Y) (q : wpX (d + 9) mX9_tempt 181 [aR 8 0, aU, aU, aI (nI (hz (Y 6 4) (Y 6 0) (Y 6 0))), aU] [] S P) : ∀ (m : Nat), m ≤ Y 6 0 → wpX (d + 9) mX9_tempt 146 [aR 8 0, aU, aU, aI (nI (hz (Y 6 4) (Y 6 0) (Y 6 0 - m))), aI (tI m)] [] S P := by
  have hn5 := ho.1.1
  have hg := yg_lt ho
  intro m
  induction m with
  | zero =>
    intro hmn
    have e1 : tI 0 = -nI 1 := rfl
    rw [e1, Nat.sub_zero]
    refine s_X9_tempt_146 ?_
    simp (disch := omega) only [B_X9_tempt_146, wi_iload, wi_if_lt, wi_iconst, wi_iload_n, wi_imul, wi_aload_n, wi_getfield, fldv_8_20, fds_8_20, cnt_8, wi_iaload, wi_invokestatic, cnt_40, aTy_40, aLn_40, arr_40, cnt_49, aTy_49, aLn_49, arr_49, cnt_50, aTy_50, aLn_50, arr_50, no0, no1, nz1, nz2, nz3, nz4, nz5, nz7, nz8, Classical.not_not, bz0, bz1, wi_nil, ld_0, ld_s, isIv_I, isLv_L, isRv_R, true_and, and_true, lset_0, lset_1, lset_s, avw_I, avw_L, avw_R, clr_cons, clr_nil, kst_0, kst_1, kstL_0, kstL_1, addk_I, pA_0, pA_s, pD_0, pD_s, wid_nil, wid_cons, rcv_c, putv_I, putv_L, List.length_cons, List.length_nil, List.set_cons_zero, List.set_cons_succ, not_false_eq_true, Nat.reduceMod, Nat.reduceDiv, Nat.reduceEqDiff, Nat.reduceLT, Nat.reduceLeDiff, Nat.reduceAdd, Nat.reduceSub, reduceIte, Nat.lt_irrefl, Nat.zero_ne_one, Nat.one_ne_zero, Nat.zero_add, List.nil_append, List.cons_append, Option.toList_some, Option.toList_none, forall_const, false_implies, true_implies, false_or, or_false, true_or, or_true, i_le, i_lt, i_eq, i_eq0, i_lt0, i_0le, i_0lt, i_le0, i_in1, i_cl, nI_add, pk_mul, pk_sub, i_div, i_rem, i_sh1, i_bit, i_or, i_and, i_andn, nt_le, nf_le, nt_lt, nf_lt, nt_eq, nf_eq, not_true_eq_false, and_self, and_false, false_and, eq_self, Bool.toNat_true, Bool.toNat_false, i_bool, i_bool1, Bool.false_eq_true, Bool.true_eq_false, reduceCtorEq, i_neg1, i_neg2, i_neg3, i_neg4, i_neg5, i_neg6, i_neg7, i_neg8, i_neg9, i_nega, i_negb, i_negc, i_max2, i_min2]
    exact q
  | succ m ih =>
    intro hmn
    have hnx := ih (by omega)
    have e1 : tI (m + 1) = nI m := by unfold tI; rw [if_neg (by omega)]; rfl
    have e2 := tI_dec (k := m) (by omega)
    rw [show Y 6 0 - m = Y 6 0 - (m + 1) + 1 by omega, hz, show Y 6 0 - (Y 6 0 - (m + 1) + 1) = m by omega] at hnx
    rw [e1]
    refine s_X9_tempt_146 ?_
    simp (disch := omega) only [B_X9_tempt_146, wi_iload, wi_if_lt, wi_iconst, wi_iload_n, wi_imul, wi_aload_n, wi_getfield, fldv_8_20, fds_8_20, cnt_8, wi_iaload, wi_invokestatic, cnt_40, aTy_40, aLn_40, arr_40, cnt_49, aTy_49, aLn_49, arr_49, cnt_50, aTy_50, aLn_50, arr_50, no0, no1, nz1, nz2, nz3, nz4, nz5, nz7, nz8, Classical.not_not, bz0, bz1, wi_nil, ld_0, ld_s, isIv_I, isLv_L, isRv_R, true_and, and_true, lset_0, lset_1, lset_s, avw_I, avw_L, avw_R, clr_cons, clr_nil, kst_0, kst_1, kstL_0, kstL_1, addk_I, pA_0, pA_s, pD_0, pD_s, wid_nil, wid_cons, rcv_c, putv_I, putv_L, List.length_cons, List.length_nil, List.set_cons_zero, List.set_cons_succ, not_false_eq_true, Nat.reduceMod, Nat.reduceDiv, Nat.reduceEqDiff, Nat.reduceLT, Nat.reduceLeDiff, Nat.reduceAdd, Nat.reduceSub, reduceIte, Nat.lt_irrefl, Nat.zero_ne_one, Nat.one_ne_zero, Nat.zero_add, List.nil_append, List.cons_append, Option.toList_some, Option.toList_none, forall_const, false_implies, true_implies, false_or, or_false, true_or, or_true, i_le, i_lt, i_eq, i_eq0, i_lt0, i_0le, i_0lt, i_le0, i_in1, i_cl, nI_add, pk_mul, pk_sub, i_div, i_rem, i_sh1, i_bit, i_or, i_and, i_andn, nt_le, nf_le, nt_lt, nf_lt, nt_eq, nf_eq, not_true_eq_false, and_self, and_false, false_and, eq_self, Bool.toNat_true, Bool.toNat_false, i_bool, i_bool1, Bool.false_eq_true, Bool.true_eq_false, reduceCtorEq, i_neg1, i_neg2, i_neg3, i_neg4, i_neg5, i_neg6, i_neg7, i_neg8, i_neg9, i_nega, i_negb, i_negc, i_max2, i_min2, (m_gone hm)]
    refine c_has (by omega) (by omega) ?_
    cases hb : (Y 6 4).testBit m
    · rw [hb, if_neg (by decide)] at hnx
      try simp (disch := omega) only [no0, no1, nz1, nz2, nz3, nz4, nz5, nz7, nz8, Classical.not_not, bz0, bz1, wi_nil, ld_0, ld_s, isIv_I, isLv_L, isRv_R, true_and, and_true, lset_0, lset_1, lset_s, avw_I, avw_L, avw_R, clr_cons, clr_nil, kst_0, kst_1, kstL_0, kstL_1, addk_I, pA_0, pA_s, pD_0, pD_s, wid_nil, wid_cons, rcv_c, putv_I, putv_L, List.length_cons, List.length_nil, List.set_cons_zero, List.set_cons_succ, not_false_eq_true, Nat.reduceMod, Nat.reduceDiv, Nat.reduceEqDiff, Nat.reduceLT, Nat.reduceLeDiff, Nat.reduceAdd, Nat.reduceSub, reduceIte, Nat.lt_irrefl, Nat.zero_ne_one, Nat.one_ne_zero, Nat.zero_add, List.nil_append, List.cons_append, Option.toList_some, Option.toList_none, forall_const, false_implies, true_implies, false_or, or_false, true_or, or_true, i_le, i_lt, i_eq, i_eq0, i_lt0, i_0le, i_0lt, i_le0, i_in1, i_cl, nI_add, pk_mul, pk_sub, i_div, i_rem, i_sh1, i_bit, i_or, i_and, i_andn, nt_le, nf_le, nt_lt, nf_lt, nt_eq, nf_eq, not_true_eq_false, and_self, and_false, false_and, eq_self, Bool.toNat_true, Bool.toNat_false, i_bool, i_bool1, Bool.false_eq_true, Bool.true_eq_false, reduceCtorEq, i_neg1, i_neg2, i_neg3, i_neg4, i_neg5, i_neg6, i_neg7, i_neg8, i_neg9, i_nega, i_negb, i_negc, i_max2, i_min2, e2, wi_nil]
      repeat (
        first
        | refine s_X9_tempt_0 ?_
        | refine s_X9_tempt_7 ?_
        | refine s_X9_tempt_10 ?_
        | refine s_X9_tempt_17 ?_
        | refine s_X9_tempt_24 ?_
        | refine s_X9_tempt_38 ?_
        | refine s_X9_tempt_41 ?_
        | refine s_X9_tempt_48 ?_
        | refine s_X9_tempt_65 ?_
        | refine s_X9_tempt_87 ?_
        | refine s_X9_tempt_88 ?_
        | refine s_X9_tempt_91 ?_
        | refine s_X9_tempt_98 ?_
        | refine s_X9_tempt_107 ?_
        | refine s_X9_tempt_130 ?_
        | refine s_X9_tempt_136 ?_
        | refine s_X9_tempt_165 ?_
        | refine s_X9_tempt_172 ?_
        | refine s_X9_tempt_173 ?_
        | refine s_X9_tempt_181 ?_
        simp (disch := omega) only [B_X9_tempt_0, wi_aload_n, wi_iload_n, wi_iconst, wi_invokestatic, B_X9_tempt_7, wi_invokevirtual, cnt_8, B_X9_tempt_10, wi_istore_n, wi_if_ge, wi_ireturn, B_X9_tempt_17, B_X9_tempt_19, B_X9_tempt_24, wi_icmp_ge, wi_getfield, fldv_8_34, fds_8_34, B_X9_tempt_38, B_X9_tempt_41, wi_iastore, wi_iinc, wi_goto, cnt_40, aTy_40, aLn_40, arr_40, cnt_49, aTy_49, aLn_49, arr_49, cnt_50, aTy_50, aLn_50, arr_50, B_X9_tempt_48, wi_isub, B_X9_tempt_52, wi_if_lt, wi_istore, B_X9_tempt_59, wi_iload, B_X9_tempt_65, fldv_8_35, fds_8_35, wi_irem, wi_if_ne, B_X9_tempt_87, B_X9_tempt_88, B_X9_tempt_91, B_X9_tempt_98, B_X9_tempt_101, B_X9_tempt_107, wi_iaload, B_X9_tempt_130, B_X9_tempt_136, fldv_8_10, fds_8_10, B_X9_tempt_146, wi_imul, fldv_8_20, fds_8_20, B_X9_tempt_165, wi_if_eq, B_X9_tempt_172, B_X9_tempt_173, wi_iadd, B_X9_tempt_181, no0, no1, nz1, nz2, nz3, nz4, nz5, nz7, nz8, Classical.not_not, bz0, bz1, wi_nil, ld_0, ld_s, isIv_I, isLv_L, isRv_R, true_and, and_true, lset_0, lset_1, lset_s, avw_I, avw_L, avw_R, clr_cons, clr_nil, kst_0, kst_1, kstL_0, kstL_1, addk_I, pA_0, pA_s, pD_0, pD_s, wid_nil, wid_cons, rcv_c, putv_I, putv_L, List.length_cons, List.length_nil, List.set_cons_zero, List.set_cons_succ, not_false_eq_true, Nat.reduceMod, Nat.reduceDiv, Nat.reduceEqDiff, Nat.reduceLT, Nat.reduceLeDiff, Nat.reduceAdd, Nat.reduceSub, reduceIte, Nat.lt_irrefl, Nat.zero_ne_one, Nat.one_ne_zero, Nat.zero_add, List.nil_append, List.cons_append, Option.toList_some, Option.toList_none, forall_const, false_implies, true_implies, false_or, or_false, true_or, or_true, i_le, i_lt, i_eq, i_eq0, i_lt0, i_0le, i_0lt, i_le0, i_in1, i_cl, nI_add, pk_mul, pk_sub, i_div, i_rem, i_sh1, i_bit, i_or, i_and, i_andn, nt_le, nf_le, nt_lt, nf_lt, nt_eq, nf_eq, not_true_eq_false, and_self, and_false, false_and, eq_self, Bool.toNat_true, Bool.toNat_false, i_bool, i_bool1, Bool.false_eq_true, Bool.true_eq_false, reduceCtorEq, i_neg1, i_neg2, i_neg3, i_neg4, i_neg5, i_neg6, i_neg7, i_neg8, i_neg9, i_nega, i_negb, i_negc, i_max2, i_min2, e2])
      exact hnx
    · rw [hb, if_pos rfl] at hnx
      try simp (disch := omega) only [no0, no1, nz1, nz2, nz3, nz4, nz5, nz7, nz8, Classical.not_not, bz0, bz1, wi_nil, ld_0, ld_s, isIv_I, isLv_L, isRv_R, true_and, and_true, lset_0, lset_1, lset_s, avw_I, avw_L, avw_R, clr_cons, clr_nil, kst_0, kst_1, kstL_0, kstL_1, addk_I, pA_0, pA_s, pD_0, pD_s, wid_nil, wid_cons, rcv_c, putv_I, putv_L, List.length_cons, List.length_nil, List.set_cons_zero, List.set_cons_succ, not_false_eq_true, Nat.reduceMod, Nat.reduceDiv, Nat.reduceEqDiff, Nat.reduceLT, Nat.reduceLeDiff, Nat.reduceAdd, Nat.reduceSub, reduceIte, Nat.lt_irrefl, Nat.zero_ne_one, Nat.one_ne_zero, Nat.zero_add, List.nil_append, List.cons_append, Option.toList_some, Option.toList_none, forall_const, false_implies, true_implies, false_or, or_false, true_or, or_true, i_le, i_lt, i_eq, i_eq0, i_lt0, i_0le, i_0lt, i_le0, i_in1, i_cl, nI_add, pk_mul, pk_sub, i_div, i_rem, i_sh1, i_bit, i_or, i_and, i_andn, nt_le, nf_le, nt_lt, nf_lt, nt_eq, nf_eq, not_true_eq_false, and_self, and_false, false_and, eq_self, Bool.toNat_true, Bool.toNat_false, i_bool, i_bool1, Bool.false_eq_true, Bool.true_eq_false, reduceCtorEq, i_neg1, i_neg2, i_neg3, i_neg4, i_neg5, i_neg6, i_neg7, i_neg8, i_neg9, i_nega, i_negb, i_negc, i_max2, i_min2, e2, wi_nil]
      repeat (
        first
        | refine s_X9_tempt_0 ?_
        | refine s_X9_tempt_7 ?_
        | refine s_X9_tempt_10 ?_
        | refine s_X9_tempt_17 ?_
        | refine s_X9_tempt_24 ?_
        | refine s_X9_tempt_38 ?_
        | refine s_X9_tempt_41 ?_
        | refine s_X9_tempt_48 ?_
        | refine s_X9_tempt_65 ?_
        | refine s_X9_tempt_87 ?_
        | refine s_X9_tempt_88 ?_
        | refine s_X9_tempt_91 ?_
        | refine s_X9_tempt_98 ?_
        | refine s_X9_tempt_107 ?_
        | refine s_X9_tempt_130 ?_
        | refine s_X9_tempt_136 ?_
        | refine s_X9_tempt_165 ?_
        | refine s_X9_tempt_172 ?_
        | refine s_X9_tempt_173 ?_
        | refine s_X9_tempt_181 ?_
        simp (disch := omega) only [B_X9_tempt_0, wi_aload_n, wi_iload_n, wi_iconst, wi_invokestatic, B_X9_tempt_7, wi_invokevirtual, cnt_8, B_X9_tempt_10, wi_istore_n, wi_if_ge, wi_ireturn, B_X9_tempt_17, B_X9_tempt_19, B_X9_tempt_24, wi_icmp_ge, wi_getfield, fldv_8_34, fds_8_34, B_X9_tempt_38, B_X9_tempt_41, wi_iastore, wi_iinc, wi_goto, cnt_40, aTy_40, aLn_40, arr_40, cnt_49, aTy_49, aLn_49, arr_49, cnt_50, aTy_50, aLn_50, arr_50, B_X9_tempt_48, wi_isub, B_X9_tempt_52, wi_if_lt, wi_istore, B_X9_tempt_59, wi_iload, B_X9_tempt_65, fldv_8_35, fds_8_35, wi_irem, wi_if_ne, B_X9_tempt_87, B_X9_tempt_88, B_X9_tempt_91, B_X9_tempt_98, B_X9_tempt_101, B_X9_tempt_107, wi_iaload, B_X9_tempt_130, B_X9_tempt_136, fldv_8_10, fds_8_10, B_X9_tempt_146, wi_imul, fldv_8_20, fds_8_20, B_X9_tempt_165, wi_if_eq, B_X9_tempt_172, B_X9_tempt_173, wi_iadd, B_X9_tempt_181, no0, no1, nz1, nz2, nz3, nz4, nz5, nz7, nz8, Classical.not_not, bz0, bz1, wi_nil, ld_0, ld_s, isIv_I, isLv_L, isRv_R, true_and, and_true, lset_0, lset_1, lset_s, avw_I, avw_L, avw_R, clr_cons, clr_nil, kst_0, kst_1, kstL_0, kstL_1, addk_I, pA_0, pA_s, pD_0, pD_s, wid_nil, wid_cons, rcv_c, putv_I, putv_L, List.length_cons, List.length_nil, List.set_cons_zero, List.set_cons_succ, not_false_eq_true, Nat.reduceMod, Nat.reduceDiv, Nat.reduceEqDiff, Nat.reduceLT, Nat.reduceLeDiff, Nat.reduceAdd, Nat.reduceSub, reduceIte, Nat.lt_irrefl, Nat.zero_ne_one, Nat.one_ne_zero, Nat.zero_add, List.nil_append, List.cons_append, Option.toList_some, Option.toList_none, forall_const, false_implies, true_implies, false_or, or_false, true_or, or_true, i_le, i_lt, i_eq, i_eq0, i_lt0, i_0le, i_0lt, i_le0, i_in1, i_cl, nI_add, pk_mul, pk_sub, i_div, i_rem, i_sh1, i_bit, i_or, i_and, i_andn, nt_le, nf_le, nt_lt, nf_lt, nt_eq, nf_eq, not_true_eq_false, and_self, and_false, false_and, eq_self, Bool.toNat_true, Bool.toNat_false, i_bool, i_bool1, Bool.false_eq_true, Bool.true_eq_false, reduceCtorEq, i_neg1, i_neg2, i_neg3, i_neg4, i_neg5, i_neg6, i_neg7, i_neg8, i_neg9, i_nega, i_negb, i_negc, i_max2, i_min2, e2])
      exact hnx
theorem o_tempt {v : Int32} (h : Rr S) : wpM (d + 10) mX8_tempt [aR 7 0, aI v] S (PX d mX9_tempt [aI v]) := by
  obtain ⟨Y, hy, hok, hm⟩ := r_year h
  have hn5 := hok.1.1
  have h243 := p3_le hn5
  have hg := yg_lt hok
  cases hv : inB v 6
  · have key : wpM (d + 10) mX9_tempt [aR 8 0, aI v] S (PM (-nI 1)) := by
      refine x_entry (ls2 := [aR 8 0, aI v, aU, aU, aU]) (Nat.le_of_ble_eq_true rfl) pl_9 rfl (Nat.le_of_ble_eq_true rfl) ?_
      try simp (disch := omega) only [no0, no1, nz1, nz2, nz3, nz4, nz5, nz7, nz8, Classical.not_not, bz0, bz1, wi_nil, ld_0, ld_s, isIv_I, isLv_L, isRv_R, true_and, and_true, lset_0, lset_1, lset_s, avw_I, avw_L, avw_R, clr_cons, clr_nil, kst_0, kst_1, kstL_0, kstL_1, addk_I, pA_0, pA_s, pD_0, pD_s, wid_nil, wid_cons, rcv_c, putv_I, putv_L, List.length_cons, List.length_nil, List.set_cons_zero, List.set_cons_succ, not_false_eq_true, Nat.reduceMod, Nat.reduceDiv, Nat.reduceEqDiff, Nat.reduceLT, Nat.reduceLeDiff, Nat.reduceAdd, Nat.reduceSub, reduceIte, Nat.lt_irrefl, Nat.zero_ne_one, Nat.one_ne_zero, Nat.zero_add, List.nil_append, List.cons_append, Option.toList_some, Option.toList_none, forall_const, false_implies, true_implies, false_or, or_false, true_or, or_true, i_le, i_lt, i_eq, i_eq0, i_lt0, i_0le, i_0lt, i_le0, i_in1, i_cl, nI_add, pk_mul, pk_sub, i_div, i_rem, i_sh1, i_bit, i_or, i_and, i_andn, nt_le, nf_le, nt_lt, nf_lt, nt_eq, nf_eq, not_true_eq_false, and_self, and_false, false_and, eq_self, Bool.toNat_true, Bool.toNat_false, i_bool, i_bool1, Bool.false_eq_true, Bool.true_eq_false, reduceCtorEq, i_neg1, i_neg2, i_neg3, i_neg4, i_neg5, i_neg6, i_neg7, i_neg8, i_neg9, i_nega, i_negb, i_negc, i_max2, i_min2, wi_nil]
      repeat (
        first
        | refine s_X9_tempt_0 ?_
        | refine s_X9_tempt_7 ?_
        | refine s_X9_tempt_10 ?_
        | refine s_X9_tempt_17 ?_
        | refine s_X9_tempt_24 ?_
        | refine s_X9_tempt_38 ?_
        | refine s_X9_tempt_41 ?_
        | refine s_X9_tempt_48 ?_
        | refine s_X9_tempt_65 ?_
        | refine s_X9_tempt_87 ?_
        | refine s_X9_tempt_88 ?_
        | refine s_X9_tempt_91 ?_
        | refine s_X9_tempt_98 ?_
        | refine s_X9_tempt_107 ?_
        | refine s_X9_tempt_130 ?_
        | refine s_X9_tempt_136 ?_
        | refine s_X9_tempt_165 ?_
        | refine s_X9_tempt_172 ?_
        | refine s_X9_tempt_173 ?_
        | refine s_X9_tempt_181 ?_
        simp (disch := omega) only [B_X9_tempt_0, wi_aload_n, wi_iload_n, wi_iconst, wi_invokestatic, B_X9_tempt_7, wi_invokevirtual, cnt_8, B_X9_tempt_10, wi_istore_n, wi_if_ge, wi_ireturn, B_X9_tempt_17, B_X9_tempt_19, B_X9_tempt_24, wi_icmp_ge, wi_getfield, fldv_8_34, fds_8_34, B_X9_tempt_38, B_X9_tempt_41, wi_iastore, wi_iinc, wi_goto, cnt_40, aTy_40, aLn_40, arr_40, cnt_49, aTy_49, aLn_49, arr_49, cnt_50, aTy_50, aLn_50, arr_50, B_X9_tempt_48, wi_isub, B_X9_tempt_52, wi_if_lt, wi_istore, B_X9_tempt_59, wi_iload, B_X9_tempt_65, fldv_8_35, fds_8_35, wi_irem, wi_if_ne, B_X9_tempt_87, B_X9_tempt_88, B_X9_tempt_91, B_X9_tempt_98, B_X9_tempt_101, B_X9_tempt_107, wi_iaload, B_X9_tempt_130, B_X9_tempt_136, fldv_8_10, fds_8_10, B_X9_tempt_146, wi_imul, fldv_8_20, fds_8_20, B_X9_tempt_165, wi_if_eq, B_X9_tempt_172, B_X9_tempt_173, wi_iadd, B_X9_tempt_181, no0, no1, nz1, nz2, nz3, nz4, nz5, nz7, nz8, Classical.not_not, bz0, bz1, wi_nil, ld_0, ld_s, isIv_I, isLv_L, isRv_R, true_and, and_true, lset_0, lset_1, lset_s, avw_I, avw_L, avw_R, clr_cons, clr_nil, kst_0, kst_1, kstL_0, kstL_1, addk_I, pA_0, pA_s, pD_0, pD_s, wid_nil, wid_cons, rcv_c, putv_I, putv_L, List.length_cons, List.length_nil, List.set_cons_zero, List.set_cons_succ, not_false_eq_true, Nat.reduceMod, Nat.reduceDiv, Nat.reduceEqDiff, Nat.reduceLT, Nat.reduceLeDiff, Nat.reduceAdd, Nat.reduceSub, reduceIte, Nat.lt_irrefl, Nat.zero_ne_one, Nat.one_ne_zero, Nat.zero_add, List.nil_append, List.cons_append, Option.toList_some, Option.toList_none, forall_const, false_implies, true_implies, false_or, or_false, true_or, or_true, i_le, i_lt, i_eq, i_eq0, i_lt0, i_0le, i_0lt, i_le0, i_in1, i_cl, nI_add, pk_mul, pk_sub, i_div, i_rem, i_sh1, i_bit, i_or, i_and, i_andn, nt_le, nf_le, nt_lt, nf_lt, nt_eq, nf_eq, not_true_eq_false, and_self, and_false, false_and, eq_self, Bool.toNat_true, Bool.toNat_false, i_bool, i_bool1, Bool.false_eq_true, Bool.true_eq_false, reduceCtorEq, i_neg1, i_neg2, i_neg3, i_neg4, i_neg5, i_neg6, i_neg7, i_neg8, i_neg9, i_nega, i_negb, i_negc, i_max2, i_min2])
      refine c_in (inb_le (N := 5) (by decide)) ?_
      try simp (disch := omega) only [no0, no1, nz1, nz2, nz3, nz4, nz5, nz7, nz8, Classical.not_not, bz0, bz1, wi_nil, ld_0, ld_s, isIv_I, isLv_L, isRv_R, true_and, and_true, lset_0, lset_1, lset_s, avw_I, avw_L, avw_R, clr_cons, clr_nil, kst_0, kst_1, kstL_0, kstL_1, addk_I, pA_0, pA_s, pD_0, pD_s, wid_nil, wid_cons, rcv_c, putv_I, putv_L, List.length_cons, List.length_nil, List.set_cons_zero, List.set_cons_succ, not_false_eq_true, Nat.reduceMod, Nat.reduceDiv, Nat.reduceEqDiff, Nat.reduceLT, Nat.reduceLeDiff, Nat.reduceAdd, Nat.reduceSub, reduceIte, Nat.lt_irrefl, Nat.zero_ne_one, Nat.one_ne_zero, Nat.zero_add, List.nil_append, List.cons_append, Option.toList_some, Option.toList_none, forall_const, false_implies, true_implies, false_or, or_false, true_or, or_true, i_le, i_lt, i_eq, i_eq0, i_lt0, i_0le, i_0lt, i_le0, i_in1, i_cl, nI_add, pk_mul, pk_sub, i_div, i_rem, i_sh1, i_bit, i_or, i_and, i_andn, nt_le, nf_le, nt_lt, nf_lt, nt_eq, nf_eq, not_true_eq_false, and_self, and_false, false_and, eq_self, Bool.toNat_true, Bool.toNat_false, i_bool, i_bool1, Bool.false_eq_true, Bool.true_eq_false, reduceCtorEq, i_neg1, i_neg2, i_neg3, i_neg4, i_neg5, i_neg6, i_neg7, i_neg8, i_neg9, i_nega, i_negb, i_negc, i_max2, i_min2, hv, wi_nil]
      repeat (
        first
        | refine s_X9_tempt_0 ?_
        | refine s_X9_tempt_7 ?_
        | refine s_X9_tempt_10 ?_
        | refine s_X9_tempt_17 ?_
        | refine s_X9_tempt_24 ?_
        | refine s_X9_tempt_38 ?_
        | refine s_X9_tempt_41 ?_
        | refine s_X9_tempt_48 ?_
        | refine s_X9_tempt_65 ?_
        | refine s_X9_tempt_87 ?_
        | refine s_X9_tempt_88 ?_
        | refine s_X9_tempt_91 ?_
        | refine s_X9_tempt_98 ?_
        | refine s_X9_tempt_107 ?_
        | refine s_X9_tempt_130 ?_
        | refine s_X9_tempt_136 ?_
        | refine s_X9_tempt_165 ?_
        | refine s_X9_tempt_172 ?_
        | refine s_X9_tempt_173 ?_
        | refine s_X9_tempt_181 ?_
        simp (disch := omega) only [B_X9_tempt_0, wi_aload_n, wi_iload_n, wi_iconst, wi_invokestatic, B_X9_tempt_7, wi_invokevirtual, cnt_8, B_X9_tempt_10, wi_istore_n, wi_if_ge, wi_ireturn, B_X9_tempt_17, B_X9_tempt_19, B_X9_tempt_24, wi_icmp_ge, wi_getfield, fldv_8_34, fds_8_34, B_X9_tempt_38, B_X9_tempt_41, wi_iastore, wi_iinc, wi_goto, cnt_40, aTy_40, aLn_40, arr_40, cnt_49, aTy_49, aLn_49, arr_49, cnt_50, aTy_50, aLn_50, arr_50, B_X9_tempt_48, wi_isub, B_X9_tempt_52, wi_if_lt, wi_istore, B_X9_tempt_59, wi_iload, B_X9_tempt_65, fldv_8_35, fds_8_35, wi_irem, wi_if_ne, B_X9_tempt_87, B_X9_tempt_88, B_X9_tempt_91, B_X9_tempt_98, B_X9_tempt_101, B_X9_tempt_107, wi_iaload, B_X9_tempt_130, B_X9_tempt_136, fldv_8_10, fds_8_10, B_X9_tempt_146, wi_imul, fldv_8_20, fds_8_20, B_X9_tempt_165, wi_if_eq, B_X9_tempt_172, B_X9_tempt_173, wi_iadd, B_X9_tempt_181, no0, no1, nz1, nz2, nz3, nz4, nz5, nz7, nz8, Classical.not_not, bz0, bz1, wi_nil, ld_0, ld_s, isIv_I, isLv_L, isRv_R, true_and, and_true, lset_0, lset_1, lset_s, avw_I, avw_L, avw_R, clr_cons, clr_nil, kst_0, kst_1, kstL_0, kstL_1, addk_I, pA_0, pA_s, pD_0, pD_s, wid_nil, wid_cons, rcv_c, putv_I, putv_L, List.length_cons, List.length_nil, List.set_cons_zero, List.set_cons_succ, not_false_eq_true, Nat.reduceMod, Nat.reduceDiv, Nat.reduceEqDiff, Nat.reduceLT, Nat.reduceLeDiff, Nat.reduceAdd, Nat.reduceSub, reduceIte, Nat.lt_irrefl, Nat.zero_ne_one, Nat.one_ne_zero, Nat.zero_add, List.nil_append, List.cons_append, Option.toList_some, Option.toList_none, forall_const, false_implies, true_implies, false_or, or_false, true_or, or_true, i_le, i_lt, i_eq, i_eq0, i_lt0, i_0le, i_0lt, i_le0, i_in1, i_cl, nI_add, pk_mul, pk_sub, i_div, i_rem, i_sh1, i_bit, i_or, i_and, i_andn, nt_le, nf_le, nt_lt, nf_lt, nt_eq, nf_eq, not_true_eq_false, and_self, and_false, false_and, eq_self, Bool.toNat_true, Bool.toNat_false, i_bool, i_bool1, Bool.false_eq_true, Bool.true_eq_false, reduceCtorEq, i_neg1, i_neg2, i_neg3, i_neg4, i_neg5, i_neg6, i_neg7, i_neg8, i_neg9, i_nega, i_negb, i_negc, i_max2, i_min2, hv])
      refine c_need0 hm hn5 ?_
      try simp (disch := omega) only [no0, no1, nz1, nz2, nz3, nz4, nz5, nz7, nz8, Classical.not_not, bz0, bz1, wi_nil, ld_0, ld_s, isIv_I, isLv_L, isRv_R, true_and, and_true, lset_0, lset_1, lset_s, avw_I, avw_L, avw_R, clr_cons, clr_nil, kst_0, kst_1, kstL_0, kstL_1, addk_I, pA_0, pA_s, pD_0, pD_s, wid_nil, wid_cons, rcv_c, putv_I, putv_L, List.length_cons, List.length_nil, List.set_cons_zero, List.set_cons_succ, not_false_eq_true, Nat.reduceMod, Nat.reduceDiv, Nat.reduceEqDiff, Nat.reduceLT, Nat.reduceLeDiff, Nat.reduceAdd, Nat.reduceSub, reduceIte, Nat.lt_irrefl, Nat.zero_ne_one, Nat.one_ne_zero, Nat.zero_add, List.nil_append, List.cons_append, Option.toList_some, Option.toList_none, forall_const, false_implies, true_implies, false_or, or_false, true_or, or_true, i_le, i_lt, i_eq, i_eq0, i_lt0, i_0le, i_0lt, i_le0, i_in1, i_cl, nI_add, pk_mul, pk_sub, i_div, i_rem, i_sh1, i_bit, i_or, i_and, i_andn, nt_le, nf_le, nt_lt, nf_lt, nt_eq, nf_eq, not_true_eq_false, and_self, and_false, false_and, eq_self, Bool.toNat_true, Bool.toNat_false, i_bool, i_bool1, Bool.false_eq_true, Bool.true_eq_false, reduceCtorEq, i_neg1, i_neg2, i_neg3, i_neg4, i_neg5, i_neg6, i_neg7, i_neg8, i_neg9, i_nega, i_negb, i_negc, i_max2, i_min2, wi_nil]
      repeat (
        first
        | refine s_X9_tempt_0 ?_
        | refine s_X9_tempt_7 ?_
        | refine s_X9_tempt_10 ?_
        | refine s_X9_tempt_17 ?_
        | refine s_X9_tempt_24 ?_
        | refine s_X9_tempt_38 ?_
        | refine s_X9_tempt_41 ?_
        | refine s_X9_tempt_48 ?_
        | refine s_X9_tempt_65 ?_
        | refine s_X9_tempt_87 ?_
        | refine s_X9_tempt_88 ?_
        | refine s_X9_tempt_91 ?_
        | refine s_X9_tempt_98 ?_
        | refine s_X9_tempt_107 ?_
        | refine s_X9_tempt_130 ?_
        | refine s_X9_tempt_136 ?_
        | refine s_X9_tempt_165 ?_
        | refine s_X9_tempt_172 ?_
        | refine s_X9_tempt_173 ?_
        | refine s_X9_tempt_181 ?_
        simp (disch := omega) only [B_X9_tempt_0, wi_aload_n, wi_iload_n, wi_iconst, wi_invokestatic, B_X9_tempt_7, wi_invokevirtual, cnt_8, B_X9_tempt_10, wi_istore_n, wi_if_ge, wi_ireturn, B_X9_tempt_17, B_X9_tempt_19, B_X9_tempt_24, wi_icmp_ge, wi_getfield, fldv_8_34, fds_8_34, B_X9_tempt_38, B_X9_tempt_41, wi_iastore, wi_iinc, wi_goto, cnt_40, aTy_40, aLn_40, arr_40, cnt_49, aTy_49, aLn_49, arr_49, cnt_50, aTy_50, aLn_50, arr_50, B_X9_tempt_48, wi_isub, B_X9_tempt_52, wi_if_lt, wi_istore, B_X9_tempt_59, wi_iload, B_X9_tempt_65, fldv_8_35, fds_8_35, wi_irem, wi_if_ne, B_X9_tempt_87, B_X9_tempt_88, B_X9_tempt_91, B_X9_tempt_98, B_X9_tempt_101, B_X9_tempt_107, wi_iaload, B_X9_tempt_130, B_X9_tempt_136, fldv_8_10, fds_8_10, B_X9_tempt_146, wi_imul, fldv_8_20, fds_8_20, B_X9_tempt_165, wi_if_eq, B_X9_tempt_172, B_X9_tempt_173, wi_iadd, B_X9_tempt_181, no0, no1, nz1, nz2, nz3, nz4, nz5, nz7, nz8, Classical.not_not, bz0, bz1, wi_nil, ld_0, ld_s, isIv_I, isLv_L, isRv_R, true_and, and_true, lset_0, lset_1, lset_s, avw_I, avw_L, avw_R, clr_cons, clr_nil, kst_0, kst_1, kstL_0, kstL_1, addk_I, pA_0, pA_s, pD_0, pD_s, wid_nil, wid_cons, rcv_c, putv_I, putv_L, List.length_cons, List.length_nil, List.set_cons_zero, List.set_cons_succ, not_false_eq_true, Nat.reduceMod, Nat.reduceDiv, Nat.reduceEqDiff, Nat.reduceLT, Nat.reduceLeDiff, Nat.reduceAdd, Nat.reduceSub, reduceIte, Nat.lt_irrefl, Nat.zero_ne_one, Nat.one_ne_zero, Nat.zero_add, List.nil_append, List.cons_append, Option.toList_some, Option.toList_none, forall_const, false_implies, true_implies, false_or, or_false, true_or, or_true, i_le, i_lt, i_eq, i_eq0, i_lt0, i_0le, i_0lt, i_le0, i_in1, i_cl, nI_add, pk_mul, pk_sub, i_div, i_rem, i_sh1, i_bit, i_or, i_and, i_andn, nt_le, nf_le, nt_lt, nf_lt, nt_eq, nf_eq, not_true_eq_false, and_self, and_false, false_and, eq_self, Bool.toNat_true, Bool.toNat_false, i_bool, i_bool1, Bool.false_eq_true, Bool.true_eq_false, reduceCtorEq, i_neg1, i_neg2, i_neg3, i_neg4, i_neg5, i_neg6, i_neg7, i_neg8, i_neg9, i_nega, i_negb, i_negc, i_max2, i_min2])
      exact pm h
    rcases off_gt (N := 5) (by decide) hv with a | ⟨a, b, -⟩
    · refine x_entry (ls2 := [aR 7 0, aI v]) (Nat.le_of_ble_eq_true rfl) pl_8 rfl (Nat.le_of_ble_eq_true rfl) ?_
      try simp (disch := omega) only [no0, no1, nz1, nz2, nz3, nz4, nz5, nz7, nz8, Classical.not_not, bz0, bz1, wi_nil, ld_0, ld_s, isIv_I, isLv_L, isRv_R, true_and, and_true, lset_0, lset_1, lset_s, avw_I, avw_L, avw_R, clr_cons, clr_nil, kst_0, kst_1, kstL_0, kstL_1, addk_I, pA_0, pA_s, pD_0, pD_s, wid_nil, wid_cons, rcv_c, putv_I, putv_L, List.length_cons, List.length_nil, List.set_cons_zero, List.set_cons_succ, not_false_eq_true, Nat.reduceMod, Nat.reduceDiv, Nat.reduceEqDiff, Nat.reduceLT, Nat.reduceLeDiff, Nat.reduceAdd, Nat.reduceSub, reduceIte, Nat.lt_irrefl, Nat.zero_ne_one, Nat.one_ne_zero, Nat.zero_add, List.nil_append, List.cons_append, Option.toList_some, Option.toList_none, forall_const, false_implies, true_implies, false_or, or_false, true_or, or_true, i_le, i_lt, i_eq, i_eq0, i_lt0, i_0le, i_0lt, i_le0, i_in1, i_cl, nI_add, pk_mul, pk_sub, i_div, i_rem, i_sh1, i_bit, i_or, i_and, i_andn, nt_le, nf_le, nt_lt, nf_lt, nt_eq, nf_eq, not_true_eq_false, and_self, and_false, false_and, eq_self, Bool.toNat_true, Bool.toNat_false, i_bool, i_bool1, Bool.false_eq_true, Bool.true_eq_false, reduceCtorEq, i_neg1, i_neg2, i_neg3, i_neg4, i_neg5, i_neg6, i_neg7, i_neg8, i_neg9, i_nega, i_negb, i_negc, i_max2, i_min2, a, wi_nil]
      repeat (
        first
        | refine s_X8_tempt_0 ?_
        | refine s_X8_tempt_9 ?_
        | refine s_X8_tempt_11 ?_
        | refine s_X8_tempt_24 ?_
        | refine s_X8_tempt_31 ?_
        | refine s_X8_tempt_38 ?_
        | refine s_X8_tempt_50 ?_
        simp (disch := omega) only [B_X8_tempt_0, wi_iload_n, wi_if_lt, wi_iconst, wi_icmp_le, B_X8_tempt_9, wi_ireturn, B_X8_tempt_11, wi_aload_n, wi_getfield, fldv_7_3, fds_7_3, cnt_7, fldv_6_7, fds_6_7, cnt_6, wi_if_ne, wi_bipush, B_X8_tempt_24, wi_invokevirtual, B_X8_tempt_31, B_X8_tempt_38, fldv_6_9, fds_6_9, wi_invokestatic, B_X8_tempt_50, no0, no1, nz1, nz2, nz3, nz4, nz5, nz7, nz8, Classical.not_not, bz0, bz1, wi_nil, ld_0, ld_s, isIv_I, isLv_L, isRv_R, true_and, and_true, lset_0, lset_1, lset_s, avw_I, avw_L, avw_R, clr_cons, clr_nil, kst_0, kst_1, kstL_0, kstL_1, addk_I, pA_0, pA_s, pD_0, pD_s, wid_nil, wid_cons, rcv_c, putv_I, putv_L, List.length_cons, List.length_nil, List.set_cons_zero, List.set_cons_succ, not_false_eq_true, Nat.reduceMod, Nat.reduceDiv, Nat.reduceEqDiff, Nat.reduceLT, Nat.reduceLeDiff, Nat.reduceAdd, Nat.reduceSub, reduceIte, Nat.lt_irrefl, Nat.zero_ne_one, Nat.one_ne_zero, Nat.zero_add, List.nil_append, List.cons_append, Option.toList_some, Option.toList_none, forall_const, false_implies, true_implies, false_or, or_false, true_or, or_true, i_le, i_lt, i_eq, i_eq0, i_lt0, i_0le, i_0lt, i_le0, i_in1, i_cl, nI_add, pk_mul, pk_sub, i_div, i_rem, i_sh1, i_bit, i_or, i_and, i_andn, nt_le, nf_le, nt_lt, nf_lt, nt_eq, nf_eq, not_true_eq_false, and_self, and_false, false_and, eq_self, Bool.toNat_true, Bool.toNat_false, i_bool, i_bool1, Bool.false_eq_true, Bool.true_eq_false, reduceCtorEq, i_neg1, i_neg2, i_neg3, i_neg4, i_neg5, i_neg6, i_neg7, i_neg8, i_neg9, i_nega, i_negb, i_negc, i_max2, i_min2, a])
      exact px key
    · refine x_entry (ls2 := [aR 7 0, aI v]) (Nat.le_of_ble_eq_true rfl) pl_8 rfl (Nat.le_of_ble_eq_true rfl) ?_
      try simp (disch := omega) only [no0, no1, nz1, nz2, nz3, nz4, nz5, nz7, nz8, Classical.not_not, bz0, bz1, wi_nil, ld_0, ld_s, isIv_I, isLv_L, isRv_R, true_and, and_true, lset_0, lset_1, lset_s, avw_I, avw_L, avw_R, clr_cons, clr_nil, kst_0, kst_1, kstL_0, kstL_1, addk_I, pA_0, pA_s, pD_0, pD_s, wid_nil, wid_cons, rcv_c, putv_I, putv_L, List.length_cons, List.length_nil, List.set_cons_zero, List.set_cons_succ, not_false_eq_true, Nat.reduceMod, Nat.reduceDiv, Nat.reduceEqDiff, Nat.reduceLT, Nat.reduceLeDiff, Nat.reduceAdd, Nat.reduceSub, reduceIte, Nat.lt_irrefl, Nat.zero_ne_one, Nat.one_ne_zero, Nat.zero_add, List.nil_append, List.cons_append, Option.toList_some, Option.toList_none, forall_const, false_implies, true_implies, false_or, or_false, true_or, or_true, i_le, i_lt, i_eq, i_eq0, i_lt0, i_0le, i_0lt, i_le0, i_in1, i_cl, nI_add, pk_mul, pk_sub, i_div, i_rem, i_sh1, i_bit, i_or, i_and, i_andn, nt_le, nf_le, nt_lt, nf_lt, nt_eq, nf_eq, not_true_eq_false, and_self, and_false, false_and, eq_self, Bool.toNat_true, Bool.toNat_false, i_bool, i_bool1, Bool.false_eq_true, Bool.true_eq_false, reduceCtorEq, i_neg1, i_neg2, i_neg3, i_neg4, i_neg5, i_neg6, i_neg7, i_neg8, i_neg9, i_nega, i_negb, i_negc, i_max2, i_min2, a, b, wi_nil]
      repeat (
        first
        | refine s_X8_tempt_0 ?_
        | refine s_X8_tempt_9 ?_
        | refine s_X8_tempt_11 ?_
        | refine s_X8_tempt_24 ?_
        | refine s_X8_tempt_31 ?_
        | refine s_X8_tempt_38 ?_
        | refine s_X8_tempt_50 ?_
        simp (disch := omega) only [B_X8_tempt_0, wi_iload_n, wi_if_lt, wi_iconst, wi_icmp_le, B_X8_tempt_9, wi_ireturn, B_X8_tempt_11, wi_aload_n, wi_getfield, fldv_7_3, fds_7_3, cnt_7, fldv_6_7, fds_6_7, cnt_6, wi_if_ne, wi_bipush, B_X8_tempt_24, wi_invokevirtual, B_X8_tempt_31, B_X8_tempt_38, fldv_6_9, fds_6_9, wi_invokestatic, B_X8_tempt_50, no0, no1, nz1, nz2, nz3, nz4, nz5, nz7, nz8, Classical.not_not, bz0, bz1, wi_nil, ld_0, ld_s, isIv_I, isLv_L, isRv_R, true_and, and_true, lset_0, lset_1, lset_s, avw_I, avw_L, avw_R, clr_cons, clr_nil, kst_0, kst_1, kstL_0, kstL_1, addk_I, pA_0, pA_s, pD_0, pD_s, wid_nil, wid_cons, rcv_c, putv_I, putv_L, List.length_cons, List.length_nil, List.set_cons_zero, List.set_cons_succ, not_false_eq_true, Nat.reduceMod, Nat.reduceDiv, Nat.reduceEqDiff, Nat.reduceLT, Nat.reduceLeDiff, Nat.reduceAdd, Nat.reduceSub, reduceIte, Nat.lt_irrefl, Nat.zero_ne_one, Nat.one_ne_zero, Nat.zero_add, List.nil_append, List.cons_append, Option.toList_some, Option.toList_none, forall_const, false_implies, true_implies, false_or, or_false, true_or, or_true, i_le, i_lt, i_eq, i_eq0, i_lt0, i_0le, i_0lt, i_le0, i_in1, i_cl, nI_add, pk_mul, pk_sub, i_div, i_rem, i_sh1, i_bit, i_or, i_and, i_andn, nt_le, nf_le, nt_lt, nf_lt, nt_eq, nf_eq, not_true_eq_false, and_self, and_false, false_and, eq_self, Bool.toNat_true, Bool.toNat_false, i_bool, i_bool1, Bool.false_eq_true, Bool.true_eq_false, reduceCtorEq, i_neg1, i_neg2, i_neg3, i_neg4, i_neg5, i_neg6, i_neg7, i_neg8, i_neg9, i_nega, i_negb, i_negc, i_max2, i_min2, a, b])
      exact px key
  · obtain ⟨v, hv2, rfl⟩ := inb_nat hv
    rcases Nat.eq_zero_or_pos (Y 6 0) with e0 | e0
    · refine x_entry (ls2 := [aR 7 0, aI (nI v)]) (Nat.le_of_ble_eq_true rfl) pl_8 rfl (Nat.le_of_ble_eq_true rfl) ?_
      try simp (disch := omega) only [no0, no1, nz1, nz2, nz3, nz4, nz5, nz7, nz8, Classical.not_not, bz0, bz1, wi_nil, ld_0, ld_s, isIv_I, isLv_L, isRv_R, true_and, and_true, lset_0, lset_1, lset_s, avw_I, avw_L, avw_R, clr_cons, clr_nil, kst_0, kst_1, kstL_0, kstL_1, addk_I, pA_0, pA_s, pD_0, pD_s, wid_nil, wid_cons, rcv_c, putv_I, putv_L, List.length_cons, List.length_nil, List.set_cons_zero, List.set_cons_succ, not_false_eq_true, Nat.reduceMod, Nat.reduceDiv, Nat.reduceEqDiff, Nat.reduceLT, Nat.reduceLeDiff, Nat.reduceAdd, Nat.reduceSub, reduceIte, Nat.lt_irrefl, Nat.zero_ne_one, Nat.one_ne_zero, Nat.zero_add, List.nil_append, List.cons_append, Option.toList_some, Option.toList_none, forall_const, false_implies, true_implies, false_or, or_false, true_or, or_true, i_le, i_lt, i_eq, i_eq0, i_lt0, i_0le, i_0lt, i_le0, i_in1, i_cl, nI_add, pk_mul, pk_sub, i_div, i_rem, i_sh1, i_bit, i_or, i_and, i_andn, nt_le, nf_le, nt_lt, nf_lt, nt_eq, nf_eq, not_true_eq_false, and_self, and_false, false_and, eq_self, Bool.toNat_true, Bool.toNat_false, i_bool, i_bool1, Bool.false_eq_true, Bool.true_eq_false, reduceCtorEq, i_neg1, i_neg2, i_neg3, i_neg4, i_neg5, i_neg6, i_neg7, i_neg8, i_neg9, i_nega, i_negb, i_negc, i_max2, i_min2, (y_n hy), wi_nil]
      repeat (
        first
        | refine s_X8_tempt_0 ?_
        | refine s_X8_tempt_9 ?_
        | refine s_X8_tempt_11 ?_
        | refine s_X8_tempt_24 ?_
        | refine s_X8_tempt_31 ?_
        | refine s_X8_tempt_38 ?_
        | refine s_X8_tempt_50 ?_
        simp (disch := omega) only [B_X8_tempt_0, wi_iload_n, wi_if_lt, wi_iconst, wi_icmp_le, B_X8_tempt_9, wi_ireturn, B_X8_tempt_11, wi_aload_n, wi_getfield, fldv_7_3, fds_7_3, cnt_7, fldv_6_7, fds_6_7, cnt_6, wi_if_ne, wi_bipush, B_X8_tempt_24, wi_invokevirtual, B_X8_tempt_31, B_X8_tempt_38, fldv_6_9, fds_6_9, wi_invokestatic, B_X8_tempt_50, no0, no1, nz1, nz2, nz3, nz4, nz5, nz7, nz8, Classical.not_not, bz0, bz1, wi_nil, ld_0, ld_s, isIv_I, isLv_L, isRv_R, true_and, and_true, lset_0, lset_1, lset_s, avw_I, avw_L, avw_R, clr_cons, clr_nil, kst_0, kst_1, kstL_0, kstL_1, addk_I, pA_0, pA_s, pD_0, pD_s, wid_nil, wid_cons, rcv_c, putv_I, putv_L, List.length_cons, List.length_nil, List.set_cons_zero, List.set_cons_succ, not_false_eq_true, Nat.reduceMod, Nat.reduceDiv, Nat.reduceEqDiff, Nat.reduceLT, Nat.reduceLeDiff, Nat.reduceAdd, Nat.reduceSub, reduceIte, Nat.lt_irrefl, Nat.zero_ne_one, Nat.one_ne_zero, Nat.zero_add, List.nil_append, List.cons_append, Option.toList_some, Option.toList_none, forall_const, false_implies, true_implies, false_or, or_false, true_or, or_true, i_le, i_lt, i_eq, i_eq0, i_lt0, i_0le, i_0lt, i_le0, i_in1, i_cl, nI_add, pk_mul, pk_sub, i_div, i_rem, i_sh1, i_bit, i_or, i_and, i_andn, nt_le, nf_le, nt_lt, nf_lt, nt_eq, nf_eq, not_true_eq_false, and_self, and_false, false_and, eq_self, Bool.toNat_true, Bool.toNat_false, i_bool, i_bool1, Bool.false_eq_true, Bool.true_eq_false, reduceCtorEq, i_neg1, i_neg2, i_neg3, i_neg4, i_neg5, i_neg6, i_neg7, i_neg8, i_neg9, i_nega, i_negb, i_negc, i_max2, i_min2, (y_n hy)])
      refine px ?_
      refine x_entry (ls2 := [aR 8 0, aI (nI v), aU, aU, aU]) (Nat.le_of_ble_eq_true rfl) pl_9 rfl (Nat.le_of_ble_eq_true rfl) ?_
      try simp (disch := omega) only [no0, no1, nz1, nz2, nz3, nz4, nz5, nz7, nz8, Classical.not_not, bz0, bz1, wi_nil, ld_0, ld_s, isIv_I, isLv_L, isRv_R, true_and, and_true, lset_0, lset_1, lset_s, avw_I, avw_L, avw_R, clr_cons, clr_nil, kst_0, kst_1, kstL_0, kstL_1, addk_I, pA_0, pA_s, pD_0, pD_s, wid_nil, wid_cons, rcv_c, putv_I, putv_L, List.length_cons, List.length_nil, List.set_cons_zero, List.set_cons_succ, not_false_eq_true, Nat.reduceMod, Nat.reduceDiv, Nat.reduceEqDiff, Nat.reduceLT, Nat.reduceLeDiff, Nat.reduceAdd, Nat.reduceSub, reduceIte, Nat.lt_irrefl, Nat.zero_ne_one, Nat.one_ne_zero, Nat.zero_add, List.nil_append, List.cons_append, Option.toList_some, Option.toList_none, forall_const, false_implies, true_implies, false_or, or_false, true_or, or_true, i_le, i_lt, i_eq, i_eq0, i_lt0, i_0le, i_0lt, i_le0, i_in1, i_cl, nI_add, pk_mul, pk_sub, i_div, i_rem, i_sh1, i_bit, i_or, i_and, i_andn, nt_le, nf_le, nt_lt, nf_lt, nt_eq, nf_eq, not_true_eq_false, and_self, and_false, false_and, eq_self, Bool.toNat_true, Bool.toNat_false, i_bool, i_bool1, Bool.false_eq_true, Bool.true_eq_false, reduceCtorEq, i_neg1, i_neg2, i_neg3, i_neg4, i_neg5, i_neg6, i_neg7, i_neg8, i_neg9, i_nega, i_negb, i_negc, i_max2, i_min2, wi_nil]
      repeat (
        first
        | refine s_X9_tempt_0 ?_
        | refine s_X9_tempt_7 ?_
        | refine s_X9_tempt_10 ?_
        | refine s_X9_tempt_17 ?_
        | refine s_X9_tempt_24 ?_
        | refine s_X9_tempt_38 ?_
        | refine s_X9_tempt_41 ?_
        | refine s_X9_tempt_48 ?_
        | refine s_X9_tempt_65 ?_
        | refine s_X9_tempt_87 ?_
        | refine s_X9_tempt_88 ?_
        | refine s_X9_tempt_91 ?_
        | refine s_X9_tempt_98 ?_
        | refine s_X9_tempt_107 ?_
        | refine s_X9_tempt_130 ?_
        | refine s_X9_tempt_136 ?_
        | refine s_X9_tempt_165 ?_
        | refine s_X9_tempt_172 ?_
        | refine s_X9_tempt_173 ?_
        | refine s_X9_tempt_181 ?_
        simp (disch := omega) only [B_X9_tempt_0, wi_aload_n, wi_iload_n, wi_iconst, wi_invokestatic, B_X9_tempt_7, wi_invokevirtual, cnt_8, B_X9_tempt_10, wi_istore_n, wi_if_ge, wi_ireturn, B_X9_tempt_17, B_X9_tempt_19, B_X9_tempt_24, wi_icmp_ge, wi_getfield, fldv_8_34, fds_8_34, B_X9_tempt_38, B_X9_tempt_41, wi_iastore, wi_iinc, wi_goto, cnt_40, aTy_40, aLn_40, arr_40, cnt_49, aTy_49, aLn_49, arr_49, cnt_50, aTy_50, aLn_50, arr_50, B_X9_tempt_48, wi_isub, B_X9_tempt_52, wi_if_lt, wi_istore, B_X9_tempt_59, wi_iload, B_X9_tempt_65, fldv_8_35, fds_8_35, wi_irem, wi_if_ne, B_X9_tempt_87, B_X9_tempt_88, B_X9_tempt_91, B_X9_tempt_98, B_X9_tempt_101, B_X9_tempt_107, wi_iaload, B_X9_tempt_130, B_X9_tempt_136, fldv_8_10, fds_8_10, B_X9_tempt_146, wi_imul, fldv_8_20, fds_8_20, B_X9_tempt_165, wi_if_eq, B_X9_tempt_172, B_X9_tempt_173, wi_iadd, B_X9_tempt_181, no0, no1, nz1, nz2, nz3, nz4, nz5, nz7, nz8, Classical.not_not, bz0, bz1, wi_nil, ld_0, ld_s, isIv_I, isLv_L, isRv_R, true_and, and_true, lset_0, lset_1, lset_s, avw_I, avw_L, avw_R, clr_cons, clr_nil, kst_0, kst_1, kstL_0, kstL_1, addk_I, pA_0, pA_s, pD_0, pD_s, wid_nil, wid_cons, rcv_c, putv_I, putv_L, List.length_cons, List.length_nil, List.set_cons_zero, List.set_cons_succ, not_false_eq_true, Nat.reduceMod, Nat.reduceDiv, Nat.reduceEqDiff, Nat.reduceLT, Nat.reduceLeDiff, Nat.reduceAdd, Nat.reduceSub, reduceIte, Nat.lt_irrefl, Nat.zero_ne_one, Nat.one_ne_zero, Nat.zero_add, List.nil_append, List.cons_append, Option.toList_some, Option.toList_none, forall_const, false_implies, true_implies, false_or, or_false, true_or, or_true, i_le, i_lt, i_eq, i_eq0, i_lt0, i_0le, i_0lt, i_le0, i_in1, i_cl, nI_add, pk_mul, pk_sub, i_div, i_rem, i_sh1, i_bit, i_or, i_and, i_andn, nt_le, nf_le, nt_lt, nf_lt, nt_eq, nf_eq, not_true_eq_false, and_self, and_false, false_and, eq_self, Bool.toNat_true, Bool.toNat_false, i_bool, i_bool1, Bool.false_eq_true, Bool.true_eq_false, reduceCtorEq, i_neg1, i_neg2, i_neg3, i_neg4, i_neg5, i_neg6, i_neg7, i_neg8, i_neg9, i_nega, i_negb, i_negc, i_max2, i_min2])
      refine c_in (inb_le (N := 5) (by decide)) ?_
      try simp (disch := omega) only [no0, no1, nz1, nz2, nz3, nz4, nz5, nz7, nz8, Classical.not_not, bz0, bz1, wi_nil, ld_0, ld_s, isIv_I, isLv_L, isRv_R, true_and, and_true, lset_0, lset_1, lset_s, avw_I, avw_L, avw_R, clr_cons, clr_nil, kst_0, kst_1, kstL_0, kstL_1, addk_I, pA_0, pA_s, pD_0, pD_s, wid_nil, wid_cons, rcv_c, putv_I, putv_L, List.length_cons, List.length_nil, List.set_cons_zero, List.set_cons_succ, not_false_eq_true, Nat.reduceMod, Nat.reduceDiv, Nat.reduceEqDiff, Nat.reduceLT, Nat.reduceLeDiff, Nat.reduceAdd, Nat.reduceSub, reduceIte, Nat.lt_irrefl, Nat.zero_ne_one, Nat.one_ne_zero, Nat.zero_add, List.nil_append, List.cons_append, Option.toList_some, Option.toList_none, forall_const, false_implies, true_implies, false_or, or_false, true_or, or_true, i_le, i_lt, i_eq, i_eq0, i_lt0, i_0le, i_0lt, i_le0, i_in1, i_cl, nI_add, pk_mul, pk_sub, i_div, i_rem, i_sh1, i_bit, i_or, i_and, i_andn, nt_le, nf_le, nt_lt, nf_lt, nt_eq, nf_eq, not_true_eq_false, and_self, and_false, false_and, eq_self, Bool.toNat_true, Bool.toNat_false, i_bool, i_bool1, Bool.false_eq_true, Bool.true_eq_false, reduceCtorEq, i_neg1, i_neg2, i_neg3, i_neg4, i_neg5, i_neg6, i_neg7, i_neg8, i_neg9, i_nega, i_negb, i_negc, i_max2, i_min2, hv, wi_nil]
      repeat (
        first
        | refine s_X9_tempt_0 ?_
        | refine s_X9_tempt_7 ?_
        | refine s_X9_tempt_10 ?_
        | refine s_X9_tempt_17 ?_
        | refine s_X9_tempt_24 ?_
        | refine s_X9_tempt_38 ?_
        | refine s_X9_tempt_41 ?_
        | refine s_X9_tempt_48 ?_
        | refine s_X9_tempt_65 ?_
        | refine s_X9_tempt_87 ?_
        | refine s_X9_tempt_88 ?_
        | refine s_X9_tempt_91 ?_
        | refine s_X9_tempt_98 ?_
        | refine s_X9_tempt_107 ?_
        | refine s_X9_tempt_130 ?_
        | refine s_X9_tempt_136 ?_
        | refine s_X9_tempt_165 ?_
        | refine s_X9_tempt_172 ?_
        | refine s_X9_tempt_173 ?_
        | refine s_X9_tempt_181 ?_
        simp (disch := omega) only [B_X9_tempt_0, wi_aload_n, wi_iload_n, wi_iconst, wi_invokestatic, B_X9_tempt_7, wi_invokevirtual, cnt_8, B_X9_tempt_10, wi_istore_n, wi_if_ge, wi_ireturn, B_X9_tempt_17, B_X9_tempt_19, B_X9_tempt_24, wi_icmp_ge, wi_getfield, fldv_8_34, fds_8_34, B_X9_tempt_38, B_X9_tempt_41, wi_iastore, wi_iinc, wi_goto, cnt_40, aTy_40, aLn_40, arr_40, cnt_49, aTy_49, aLn_49, arr_49, cnt_50, aTy_50, aLn_50, arr_50, B_X9_tempt_48, wi_isub, B_X9_tempt_52, wi_if_lt, wi_istore, B_X9_tempt_59, wi_iload, B_X9_tempt_65, fldv_8_35, fds_8_35, wi_irem, wi_if_ne, B_X9_tempt_87, B_X9_tempt_88, B_X9_tempt_91, B_X9_tempt_98, B_X9_tempt_101, B_X9_tempt_107, wi_iaload, B_X9_tempt_130, B_X9_tempt_136, fldv_8_10, fds_8_10, B_X9_tempt_146, wi_imul, fldv_8_20, fds_8_20, B_X9_tempt_165, wi_if_eq, B_X9_tempt_172, B_X9_tempt_173, wi_iadd, B_X9_tempt_181, no0, no1, nz1, nz2, nz3, nz4, nz5, nz7, nz8, Classical.not_not, bz0, bz1, wi_nil, ld_0, ld_s, isIv_I, isLv_L, isRv_R, true_and, and_true, lset_0, lset_1, lset_s, avw_I, avw_L, avw_R, clr_cons, clr_nil, kst_0, kst_1, kstL_0, kstL_1, addk_I, pA_0, pA_s, pD_0, pD_s, wid_nil, wid_cons, rcv_c, putv_I, putv_L, List.length_cons, List.length_nil, List.set_cons_zero, List.set_cons_succ, not_false_eq_true, Nat.reduceMod, Nat.reduceDiv, Nat.reduceEqDiff, Nat.reduceLT, Nat.reduceLeDiff, Nat.reduceAdd, Nat.reduceSub, reduceIte, Nat.lt_irrefl, Nat.zero_ne_one, Nat.one_ne_zero, Nat.zero_add, List.nil_append, List.cons_append, Option.toList_some, Option.toList_none, forall_const, false_implies, true_implies, false_or, or_false, true_or, or_true, i_le, i_lt, i_eq, i_eq0, i_lt0, i_0le, i_0lt, i_le0, i_in1, i_cl, nI_add, pk_mul, pk_sub, i_div, i_rem, i_sh1, i_bit, i_or, i_and, i_andn, nt_le, nf_le, nt_lt, nf_lt, nt_eq, nf_eq, not_true_eq_false, and_self, and_false, false_and, eq_self, Bool.toNat_true, Bool.toNat_false, i_bool, i_bool1, Bool.false_eq_true, Bool.true_eq_false, reduceCtorEq, i_neg1, i_neg2, i_neg3, i_neg4, i_neg5, i_neg6, i_neg7, i_neg8, i_neg9, i_nega, i_negb, i_negc, i_max2, i_min2, hv])
      refine c_needS hm e0 ?_
      try simp (disch := omega) only [no0, no1, nz1, nz2, nz3, nz4, nz5, nz7, nz8, Classical.not_not, bz0, bz1, wi_nil, ld_0, ld_s, isIv_I, isLv_L, isRv_R, true_and, and_true, lset_0, lset_1, lset_s, avw_I, avw_L, avw_R, clr_cons, clr_nil, kst_0, kst_1, kstL_0, kstL_1, addk_I, pA_0, pA_s, pD_0, pD_s, wid_nil, wid_cons, rcv_c, putv_I, putv_L, List.length_cons, List.length_nil, List.set_cons_zero, List.set_cons_succ, not_false_eq_true, Nat.reduceMod, Nat.reduceDiv, Nat.reduceEqDiff, Nat.reduceLT, Nat.reduceLeDiff, Nat.reduceAdd, Nat.reduceSub, reduceIte, Nat.lt_irrefl, Nat.zero_ne_one, Nat.one_ne_zero, Nat.zero_add, List.nil_append, List.cons_append, Option.toList_some, Option.toList_none, forall_const, false_implies, true_implies, false_or, or_false, true_or, or_true, i_le, i_lt, i_eq, i_eq0, i_lt0, i_0le, i_0lt, i_le0, i_in1, i_cl, nI_add, pk_mul, pk_sub, i_div, i_rem, i_sh1, i_bit, i_or, i_and, i_andn, nt_le, nf_le, nt_lt, nf_lt, nt_eq, nf_eq, not_true_eq_false, and_self, and_false, false_and, eq_self, Bool.toNat_true, Bool.toNat_false, i_bool, i_bool1, Bool.false_eq_true, Bool.true_eq_false, reduceCtorEq, i_neg1, i_neg2, i_neg3, i_neg4, i_neg5, i_neg6, i_neg7, i_neg8, i_neg9, i_nega, i_negb, i_negc, i_max2, i_min2, wi_nil]
      repeat (
        first
        | refine s_X9_tempt_0 ?_
        | refine s_X9_tempt_7 ?_
        | refine s_X9_tempt_10 ?_
        | refine s_X9_tempt_17 ?_
        | refine s_X9_tempt_24 ?_
        | refine s_X9_tempt_38 ?_
        | refine s_X9_tempt_41 ?_
        | refine s_X9_tempt_48 ?_
        | refine s_X9_tempt_65 ?_
        | refine s_X9_tempt_87 ?_
        | refine s_X9_tempt_88 ?_
        | refine s_X9_tempt_91 ?_
        | refine s_X9_tempt_98 ?_
        | refine s_X9_tempt_107 ?_
        | refine s_X9_tempt_130 ?_
        | refine s_X9_tempt_136 ?_
        | refine s_X9_tempt_165 ?_
        | refine s_X9_tempt_172 ?_
        | refine s_X9_tempt_173 ?_
        | refine s_X9_tempt_181 ?_
        simp (disch := omega) only [B_X9_tempt_0, wi_aload_n, wi_iload_n, wi_iconst, wi_invokestatic, B_X9_tempt_7, wi_invokevirtual, cnt_8, B_X9_tempt_10, wi_istore_n, wi_if_ge, wi_ireturn, B_X9_tempt_17, B_X9_tempt_19, B_X9_tempt_24, wi_icmp_ge, wi_getfield, fldv_8_34, fds_8_34, B_X9_tempt_38, B_X9_tempt_41, wi_iastore, wi_iinc, wi_goto, cnt_40, aTy_40, aLn_40, arr_40, cnt_49, aTy_49, aLn_49, arr_49, cnt_50, aTy_50, aLn_50, arr_50, B_X9_tempt_48, wi_isub, B_X9_tempt_52, wi_if_lt, wi_istore, B_X9_tempt_59, wi_iload, B_X9_tempt_65, fldv_8_35, fds_8_35, wi_irem, wi_if_ne, B_X9_tempt_87, B_X9_tempt_88, B_X9_tempt_91, B_X9_tempt_98, B_X9_tempt_101, B_X9_tempt_107, wi_iaload, B_X9_tempt_130, B_X9_tempt_136, fldv_8_10, fds_8_10, B_X9_tempt_146, wi_imul, fldv_8_20, fds_8_20, B_X9_tempt_165, wi_if_eq, B_X9_tempt_172, B_X9_tempt_173, wi_iadd, B_X9_tempt_181, no0, no1, nz1, nz2, nz3, nz4, nz5, nz7, nz8, Classical.not_not, bz0, bz1, wi_nil, ld_0, ld_s, isIv_I, isLv_L, isRv_R, true_and, and_true, lset_0, lset_1, lset_s, avw_I, avw_L, avw_R, clr_cons, clr_nil, kst_0, kst_1, kstL_0, kstL_1, addk_I, pA_0, pA_s, pD_0, pD_s, wid_nil, wid_cons, rcv_c, putv_I, putv_L, List.length_cons, List.length_nil, List.set_cons_zero, List.set_cons_succ, not_false_eq_true, Nat.reduceMod, Nat.reduceDiv, Nat.reduceEqDiff, Nat.reduceLT, Nat.reduceLeDiff, Nat.reduceAdd, Nat.reduceSub, reduceIte, Nat.lt_irrefl, Nat.zero_ne_one, Nat.one_ne_zero, Nat.zero_add, List.nil_append, List.cons_append, Option.toList_some, Option.toList_none, forall_const, false_implies, true_implies, false_or, or_false, true_or, or_true, i_le, i_lt, i_eq, i_eq0, i_lt0, i_0le, i_0lt, i_le0, i_in1, i_cl, nI_add, pk_mul, pk_sub, i_div, i_rem, i_sh1, i_bit, i_or, i_and, i_andn, nt_le, nf_le, nt_lt, nf_lt, nt_eq, nf_eq, not_true_eq_false, and_self, and_false, false_and, eq_self, Bool.toNat_true, Bool.toNat_false, i_bool, i_bool1, Bool.false_eq_true, Bool.true_eq_false, reduceCtorEq, i_neg1, i_neg2, i_neg3, i_neg4, i_neg5, i_neg6, i_neg7, i_neg8, i_neg9, i_nega, i_negb, i_negc, i_max2, i_min2])
      exact pm h
    · have hyl := yop_lt (Y := Y) hn5
      have hw40 := hok.1.2.2.1
      obtain ⟨z1, z2, z3⟩ := hz_fin (n := Y 6 0) (g := Y 6 4) (by omega) hg hok.1.2.2.2.2
      have hfin : tE Y v (par 0) (hz (Y 6 4) (Y 6 0) (Y 6 0)) = TT (ycz Y) v (yop Y) (Y 6 2 : Int) true := by
        unfold tE
        rw [z1, z2, bct_0, csum_high 5 0 0 (by decide) (by decide), Nat.zero_add]
        show TT (ycz Y) v (yop Y) ((Y 6 2 : Int) - ((0 : Nat) : Int)) true = _
        rw [show ((Y 6 2 : Int) - ((0 : Nat) : Int)) = (Y 6 2 : Int) by omega]
      refine x_entry (ls2 := [aR 7 0, aI (nI v)]) (Nat.le_of_ble_eq_true rfl) pl_8 rfl (Nat.le_of_ble_eq_true rfl) ?_
      try simp (disch := omega) only [no0, no1, nz1, nz2, nz3, nz4, nz5, nz7, nz8, Classical.not_not, bz0, bz1, wi_nil, ld_0, ld_s, isIv_I, isLv_L, isRv_R, true_and, and_true, lset_0, lset_1, lset_s, avw_I, avw_L, avw_R, clr_cons, clr_nil, kst_0, kst_1, kstL_0, kstL_1, addk_I, pA_0, pA_s, pD_0, pD_s, wid_nil, wid_cons, rcv_c, putv_I, putv_L, List.length_cons, List.length_nil, List.set_cons_zero, List.set_cons_succ, not_false_eq_true, Nat.reduceMod, Nat.reduceDiv, Nat.reduceEqDiff, Nat.reduceLT, Nat.reduceLeDiff, Nat.reduceAdd, Nat.reduceSub, reduceIte, Nat.lt_irrefl, Nat.zero_ne_one, Nat.one_ne_zero, Nat.zero_add, List.nil_append, List.cons_append, Option.toList_some, Option.toList_none, forall_const, false_implies, true_implies, false_or, or_false, true_or, or_true, i_le, i_lt, i_eq, i_eq0, i_lt0, i_0le, i_0lt, i_le0, i_in1, i_cl, nI_add, pk_mul, pk_sub, i_div, i_rem, i_sh1, i_bit, i_or, i_and, i_andn, nt_le, nf_le, nt_lt, nf_lt, nt_eq, nf_eq, not_true_eq_false, and_self, and_false, false_and, eq_self, Bool.toNat_true, Bool.toNat_false, i_bool, i_bool1, Bool.false_eq_true, Bool.true_eq_false, reduceCtorEq, i_neg1, i_neg2, i_neg3, i_neg4, i_neg5, i_neg6, i_neg7, i_neg8, i_neg9, i_nega, i_negb, i_negc, i_max2, i_min2, (y_n hy), wi_nil]
      repeat (
        first
        | refine s_X8_tempt_0 ?_
        | refine s_X8_tempt_9 ?_
        | refine s_X8_tempt_11 ?_
        | refine s_X8_tempt_24 ?_
        | refine s_X8_tempt_31 ?_
        | refine s_X8_tempt_38 ?_
        | refine s_X8_tempt_50 ?_
        simp (disch := omega) only [B_X8_tempt_0, wi_iload_n, wi_if_lt, wi_iconst, wi_icmp_le, B_X8_tempt_9, wi_ireturn, B_X8_tempt_11, wi_aload_n, wi_getfield, fldv_7_3, fds_7_3, cnt_7, fldv_6_7, fds_6_7, cnt_6, wi_if_ne, wi_bipush, B_X8_tempt_24, wi_invokevirtual, B_X8_tempt_31, B_X8_tempt_38, fldv_6_9, fds_6_9, wi_invokestatic, B_X8_tempt_50, no0, no1, nz1, nz2, nz3, nz4, nz5, nz7, nz8, Classical.not_not, bz0, bz1, wi_nil, ld_0, ld_s, isIv_I, isLv_L, isRv_R, true_and, and_true, lset_0, lset_1, lset_s, avw_I, avw_L, avw_R, clr_cons, clr_nil, kst_0, kst_1, kstL_0, kstL_1, addk_I, pA_0, pA_s, pD_0, pD_s, wid_nil, wid_cons, rcv_c, putv_I, putv_L, List.length_cons, List.length_nil, List.set_cons_zero, List.set_cons_succ, not_false_eq_true, Nat.reduceMod, Nat.reduceDiv, Nat.reduceEqDiff, Nat.reduceLT, Nat.reduceLeDiff, Nat.reduceAdd, Nat.reduceSub, reduceIte, Nat.lt_irrefl, Nat.zero_ne_one, Nat.one_ne_zero, Nat.zero_add, List.nil_append, List.cons_append, Option.toList_some, Option.toList_none, forall_const, false_implies, true_implies, false_or, or_false, true_or, or_true, i_le, i_lt, i_eq, i_eq0, i_lt0, i_0le, i_0lt, i_le0, i_in1, i_cl, nI_add, pk_mul, pk_sub, i_div, i_rem, i_sh1, i_bit, i_or, i_and, i_andn, nt_le, nf_le, nt_lt, nf_lt, nt_eq, nf_eq, not_true_eq_false, and_self, and_false, false_and, eq_self, Bool.toNat_true, Bool.toNat_false, i_bool, i_bool1, Bool.false_eq_true, Bool.true_eq_false, reduceCtorEq, i_neg1, i_neg2, i_neg3, i_neg4, i_neg5, i_neg6, i_neg7, i_neg8, i_neg9, i_nega, i_negb, i_negc, i_max2, i_min2, (y_n hy)])
      refine c_weighed (by decide) hy hok (by decide) (fun g hg => ?_)
      try simp (disch := omega) only [no0, no1, nz1, nz2, nz3, nz4, nz5, nz7, nz8, Classical.not_not, bz0, bz1, wi_nil, ld_0, ld_s, isIv_I, isLv_L, isRv_R, true_and, and_true, lset_0, lset_1, lset_s, avw_I, avw_L, avw_R, clr_cons, clr_nil, kst_0, kst_1, kstL_0, kstL_1, addk_I, pA_0, pA_s, pD_0, pD_s, wid_nil, wid_cons, rcv_c, putv_I, putv_L, List.length_cons, List.length_nil, List.set_cons_zero, List.set_cons_succ, not_false_eq_true, Nat.reduceMod, Nat.reduceDiv, Nat.reduceEqDiff, Nat.reduceLT, Nat.reduceLeDiff, Nat.reduceAdd, Nat.reduceSub, reduceIte, Nat.lt_irrefl, Nat.zero_ne_one, Nat.one_ne_zero, Nat.zero_add, List.nil_append, List.cons_append, Option.toList_some, Option.toList_none, forall_const, false_implies, true_implies, false_or, or_false, true_or, or_true, i_le, i_lt, i_eq, i_eq0, i_lt0, i_0le, i_0lt, i_le0, i_in1, i_cl, nI_add, pk_mul, pk_sub, i_div, i_rem, i_sh1, i_bit, i_or, i_and, i_andn, nt_le, nf_le, nt_lt, nf_lt, nt_eq, nf_eq, not_true_eq_false, and_self, and_false, false_and, eq_self, Bool.toNat_true, Bool.toNat_false, i_bool, i_bool1, Bool.false_eq_true, Bool.true_eq_false, reduceCtorEq, i_neg1, i_neg2, i_neg3, i_neg4, i_neg5, i_neg6, i_neg7, i_neg8, i_neg9, i_nega, i_negb, i_negc, i_max2, i_min2, wi_nil]
      repeat (
        first
        | refine s_X8_tempt_0 ?_
        | refine s_X8_tempt_9 ?_
        | refine s_X8_tempt_11 ?_
        | refine s_X8_tempt_24 ?_
        | refine s_X8_tempt_31 ?_
        | refine s_X8_tempt_38 ?_
        | refine s_X8_tempt_50 ?_
        simp (disch := omega) only [B_X8_tempt_0, wi_iload_n, wi_if_lt, wi_iconst, wi_icmp_le, B_X8_tempt_9, wi_ireturn, B_X8_tempt_11, wi_aload_n, wi_getfield, fldv_7_3, fds_7_3, cnt_7, fldv_6_7, fds_6_7, cnt_6, wi_if_ne, wi_bipush, B_X8_tempt_24, wi_invokevirtual, B_X8_tempt_31, B_X8_tempt_38, fldv_6_9, fds_6_9, wi_invokestatic, B_X8_tempt_50, no0, no1, nz1, nz2, nz3, nz4, nz5, nz7, nz8, Classical.not_not, bz0, bz1, wi_nil, ld_0, ld_s, isIv_I, isLv_L, isRv_R, true_and, and_true, lset_0, lset_1, lset_s, avw_I, avw_L, avw_R, clr_cons, clr_nil, kst_0, kst_1, kstL_0, kstL_1, addk_I, pA_0, pA_s, pD_0, pD_s, wid_nil, wid_cons, rcv_c, putv_I, putv_L, List.length_cons, List.length_nil, List.set_cons_zero, List.set_cons_succ, not_false_eq_true, Nat.reduceMod, Nat.reduceDiv, Nat.reduceEqDiff, Nat.reduceLT, Nat.reduceLeDiff, Nat.reduceAdd, Nat.reduceSub, reduceIte, Nat.lt_irrefl, Nat.zero_ne_one, Nat.one_ne_zero, Nat.zero_add, List.nil_append, List.cons_append, Option.toList_some, Option.toList_none, forall_const, false_implies, true_implies, false_or, or_false, true_or, or_true, i_le, i_lt, i_eq, i_eq0, i_lt0, i_0le, i_0lt, i_le0, i_in1, i_cl, nI_add, pk_mul, pk_sub, i_div, i_rem, i_sh1, i_bit, i_or, i_and, i_andn, nt_le, nf_le, nt_lt, nf_lt, nt_eq, nf_eq, not_true_eq_false, and_self, and_false, false_and, eq_self, Bool.toNat_true, Bool.toNat_false, i_bool, i_bool1, Bool.false_eq_true, Bool.true_eq_false, reduceCtorEq, i_neg1, i_neg2, i_neg3, i_neg4, i_neg5, i_neg6, i_neg7, i_neg8, i_neg9, i_nega, i_negb, i_negc, i_max2, i_min2])
      refine c_open (by decide) (yrx_26 hy) hok ?_
      try simp (disch := omega) only [no0, no1, nz1, nz2, nz3, nz4, nz5, nz7, nz8, Classical.not_not, bz0, bz1, wi_nil, ld_0, ld_s, isIv_I, isLv_L, isRv_R, true_and, and_true, lset_0, lset_1, lset_s, avw_I, avw_L, avw_R, clr_cons, clr_nil, kst_0, kst_1, kstL_0, kstL_1, addk_I, pA_0, pA_s, pD_0, pD_s, wid_nil, wid_cons, rcv_c, putv_I, putv_L, List.length_cons, List.length_nil, List.set_cons_zero, List.set_cons_succ, not_false_eq_true, Nat.reduceMod, Nat.reduceDiv, Nat.reduceEqDiff, Nat.reduceLT, Nat.reduceLeDiff, Nat.reduceAdd, Nat.reduceSub, reduceIte, Nat.lt_irrefl, Nat.zero_ne_one, Nat.one_ne_zero, Nat.zero_add, List.nil_append, List.cons_append, Option.toList_some, Option.toList_none, forall_const, false_implies, true_implies, false_or, or_false, true_or, or_true, i_le, i_lt, i_eq, i_eq0, i_lt0, i_0le, i_0lt, i_le0, i_in1, i_cl, nI_add, pk_mul, pk_sub, i_div, i_rem, i_sh1, i_bit, i_or, i_and, i_andn, nt_le, nf_le, nt_lt, nf_lt, nt_eq, nf_eq, not_true_eq_false, and_self, and_false, false_and, eq_self, Bool.toNat_true, Bool.toNat_false, i_bool, i_bool1, Bool.false_eq_true, Bool.true_eq_false, reduceCtorEq, i_neg1, i_neg2, i_neg3, i_neg4, i_neg5, i_neg6, i_neg7, i_neg8, i_neg9, i_nega, i_negb, i_negc, i_max2, i_min2, (y_will (yrx_26 (j := 1) (r := g) hy)), wi_nil]
      repeat (
        first
        | refine s_X8_tempt_0 ?_
        | refine s_X8_tempt_9 ?_
        | refine s_X8_tempt_11 ?_
        | refine s_X8_tempt_24 ?_
        | refine s_X8_tempt_31 ?_
        | refine s_X8_tempt_38 ?_
        | refine s_X8_tempt_50 ?_
        simp (disch := omega) only [B_X8_tempt_0, wi_iload_n, wi_if_lt, wi_iconst, wi_icmp_le, B_X8_tempt_9, wi_ireturn, B_X8_tempt_11, wi_aload_n, wi_getfield, fldv_7_3, fds_7_3, cnt_7, fldv_6_7, fds_6_7, cnt_6, wi_if_ne, wi_bipush, B_X8_tempt_24, wi_invokevirtual, B_X8_tempt_31, B_X8_tempt_38, fldv_6_9, fds_6_9, wi_invokestatic, B_X8_tempt_50, no0, no1, nz1, nz2, nz3, nz4, nz5, nz7, nz8, Classical.not_not, bz0, bz1, wi_nil, ld_0, ld_s, isIv_I, isLv_L, isRv_R, true_and, and_true, lset_0, lset_1, lset_s, avw_I, avw_L, avw_R, clr_cons, clr_nil, kst_0, kst_1, kstL_0, kstL_1, addk_I, pA_0, pA_s, pD_0, pD_s, wid_nil, wid_cons, rcv_c, putv_I, putv_L, List.length_cons, List.length_nil, List.set_cons_zero, List.set_cons_succ, not_false_eq_true, Nat.reduceMod, Nat.reduceDiv, Nat.reduceEqDiff, Nat.reduceLT, Nat.reduceLeDiff, Nat.reduceAdd, Nat.reduceSub, reduceIte, Nat.lt_irrefl, Nat.zero_ne_one, Nat.one_ne_zero, Nat.zero_add, List.nil_append, List.cons_append, Option.toList_some, Option.toList_none, forall_const, false_implies, true_implies, false_or, or_false, true_or, or_true, i_le, i_lt, i_eq, i_eq0, i_lt0, i_0le, i_0lt, i_le0, i_in1, i_cl, nI_add, pk_mul, pk_sub, i_div, i_rem, i_sh1, i_bit, i_or, i_and, i_andn, nt_le, nf_le, nt_lt, nf_lt, nt_eq, nf_eq, not_true_eq_false, and_self, and_false, false_and, eq_self, Bool.toNat_true, Bool.toNat_false, i_bool, i_bool1, Bool.false_eq_true, Bool.true_eq_false, reduceCtorEq, i_neg1, i_neg2, i_neg3, i_neg4, i_neg5, i_neg6, i_neg7, i_neg8, i_neg9, i_nega, i_negb, i_negc, i_max2, i_min2, (y_will (yrx_26 (j := 1) (r := g) hy))])
      refine c_turns hok (fun s hs => by rw [gA_same]; exact hg s hs) v (d + 8) (yop Y) (Y 6 2) true _ (by omega) (by omega) hyl hw40 ?_
      try simp (disch := omega) only [no0, no1, nz1, nz2, nz3, nz4, nz5, nz7, nz8, Classical.not_not, bz0, bz1, wi_nil, ld_0, ld_s, isIv_I, isLv_L, isRv_R, true_and, and_true, lset_0, lset_1, lset_s, avw_I, avw_L, avw_R, clr_cons, clr_nil, kst_0, kst_1, kstL_0, kstL_1, addk_I, pA_0, pA_s, pD_0, pD_s, wid_nil, wid_cons, rcv_c, putv_I, putv_L, List.length_cons, List.length_nil, List.set_cons_zero, List.set_cons_succ, not_false_eq_true, Nat.reduceMod, Nat.reduceDiv, Nat.reduceEqDiff, Nat.reduceLT, Nat.reduceLeDiff, Nat.reduceAdd, Nat.reduceSub, reduceIte, Nat.lt_irrefl, Nat.zero_ne_one, Nat.one_ne_zero, Nat.zero_add, List.nil_append, List.cons_append, Option.toList_some, Option.toList_none, forall_const, false_implies, true_implies, false_or, or_false, true_or, or_true, i_le, i_lt, i_eq, i_eq0, i_lt0, i_0le, i_0lt, i_le0, i_in1, i_cl, nI_add, pk_mul, pk_sub, i_div, i_rem, i_sh1, i_bit, i_or, i_and, i_andn, nt_le, nf_le, nt_lt, nf_lt, nt_eq, nf_eq, not_true_eq_false, and_self, and_false, false_and, eq_self, Bool.toNat_true, Bool.toNat_false, i_bool, i_bool1, Bool.false_eq_true, Bool.true_eq_false, reduceCtorEq, i_neg1, i_neg2, i_neg3, i_neg4, i_neg5, i_neg6, i_neg7, i_neg8, i_neg9, i_nega, i_negb, i_negc, i_max2, i_min2, wi_nil]
      repeat (
        first
        | refine s_X8_tempt_0 ?_
        | refine s_X8_tempt_9 ?_
        | refine s_X8_tempt_11 ?_
        | refine s_X8_tempt_24 ?_
        | refine s_X8_tempt_31 ?_
        | refine s_X8_tempt_38 ?_
        | refine s_X8_tempt_50 ?_
        simp (disch := omega) only [B_X8_tempt_0, wi_iload_n, wi_if_lt, wi_iconst, wi_icmp_le, B_X8_tempt_9, wi_ireturn, B_X8_tempt_11, wi_aload_n, wi_getfield, fldv_7_3, fds_7_3, cnt_7, fldv_6_7, fds_6_7, cnt_6, wi_if_ne, wi_bipush, B_X8_tempt_24, wi_invokevirtual, B_X8_tempt_31, B_X8_tempt_38, fldv_6_9, fds_6_9, wi_invokestatic, B_X8_tempt_50, no0, no1, nz1, nz2, nz3, nz4, nz5, nz7, nz8, Classical.not_not, bz0, bz1, wi_nil, ld_0, ld_s, isIv_I, isLv_L, isRv_R, true_and, and_true, lset_0, lset_1, lset_s, avw_I, avw_L, avw_R, clr_cons, clr_nil, kst_0, kst_1, kstL_0, kstL_1, addk_I, pA_0, pA_s, pD_0, pD_s, wid_nil, wid_cons, rcv_c, putv_I, putv_L, List.length_cons, List.length_nil, List.set_cons_zero, List.set_cons_succ, not_false_eq_true, Nat.reduceMod, Nat.reduceDiv, Nat.reduceEqDiff, Nat.reduceLT, Nat.reduceLeDiff, Nat.reduceAdd, Nat.reduceSub, reduceIte, Nat.lt_irrefl, Nat.zero_ne_one, Nat.one_ne_zero, Nat.zero_add, List.nil_append, List.cons_append, Option.toList_some, Option.toList_none, forall_const, false_implies, true_implies, false_or, or_false, true_or, or_true, i_le, i_lt, i_eq, i_eq0, i_lt0, i_0le, i_0lt, i_le0, i_in1, i_cl, nI_add, pk_mul, pk_sub, i_div, i_rem, i_sh1, i_bit, i_or, i_and, i_andn, nt_le, nf_le, nt_lt, nf_lt, nt_eq, nf_eq, not_true_eq_false, and_self, and_false, false_and, eq_self, Bool.toNat_true, Bool.toNat_false, i_bool, i_bool1, Bool.false_eq_true, Bool.true_eq_false, reduceCtorEq, i_neg1, i_neg2, i_neg3, i_neg4, i_neg5, i_neg6, i_neg7, i_neg8, i_neg9, i_nega, i_negb, i_negc, i_max2, i_min2])
      refine px ?_
      have hm2 : YrM (sA S 26 1 g) 40 Y := hm
      refine x_entry (ls2 := [aR 8 0, aI (nI v), aU, aU, aU]) (Nat.le_of_ble_eq_true rfl) pl_9 rfl (Nat.le_of_ble_eq_true rfl) ?_
      try simp (disch := omega) only [no0, no1, nz1, nz2, nz3, nz4, nz5, nz7, nz8, Classical.not_not, bz0, bz1, wi_nil, ld_0, ld_s, isIv_I, isLv_L, isRv_R, true_and, and_true, lset_0, lset_1, lset_s, avw_I, avw_L, avw_R, clr_cons, clr_nil, kst_0, kst_1, kstL_0, kstL_1, addk_I, pA_0, pA_s, pD_0, pD_s, wid_nil, wid_cons, rcv_c, putv_I, putv_L, List.length_cons, List.length_nil, List.set_cons_zero, List.set_cons_succ, not_false_eq_true, Nat.reduceMod, Nat.reduceDiv, Nat.reduceEqDiff, Nat.reduceLT, Nat.reduceLeDiff, Nat.reduceAdd, Nat.reduceSub, reduceIte, Nat.lt_irrefl, Nat.zero_ne_one, Nat.one_ne_zero, Nat.zero_add, List.nil_append, List.cons_append, Option.toList_some, Option.toList_none, forall_const, false_implies, true_implies, false_or, or_false, true_or, or_true, i_le, i_lt, i_eq, i_eq0, i_lt0, i_0le, i_0lt, i_le0, i_in1, i_cl, nI_add, pk_mul, pk_sub, i_div, i_rem, i_sh1, i_bit, i_or, i_and, i_andn, nt_le, nf_le, nt_lt, nf_lt, nt_eq, nf_eq, not_true_eq_false, and_self, and_false, false_and, eq_self, Bool.toNat_true, Bool.toNat_false, i_bool, i_bool1, Bool.false_eq_true, Bool.true_eq_false, reduceCtorEq, i_neg1, i_neg2, i_neg3, i_neg4, i_neg5, i_neg6, i_neg7, i_neg8, i_neg9, i_nega, i_negb, i_negc, i_max2, i_min2, wi_nil]
      repeat (
        first
        | refine s_X9_tempt_0 ?_
        | refine s_X9_tempt_7 ?_
        | refine s_X9_tempt_10 ?_
        | refine s_X9_tempt_17 ?_
        | refine s_X9_tempt_24 ?_
        | refine s_X9_tempt_38 ?_
        | refine s_X9_tempt_41 ?_
        | refine s_X9_tempt_48 ?_
        | refine s_X9_tempt_65 ?_
        | refine s_X9_tempt_87 ?_
        | refine s_X9_tempt_88 ?_
        | refine s_X9_tempt_91 ?_
        | refine s_X9_tempt_98 ?_
        | refine s_X9_tempt_107 ?_
        | refine s_X9_tempt_130 ?_
        | refine s_X9_tempt_136 ?_
        | refine s_X9_tempt_165 ?_
        | refine s_X9_tempt_172 ?_
        | refine s_X9_tempt_173 ?_
        | refine s_X9_tempt_181 ?_
        simp (disch := omega) only [B_X9_tempt_0, wi_aload_n, wi_iload_n, wi_iconst, wi_invokestatic, B_X9_tempt_7, wi_invokevirtual, cnt_8, B_X9_tempt_10, wi_istore_n, wi_if_ge, wi_ireturn, B_X9_tempt_17, B_X9_tempt_19, B_X9_tempt_24, wi_icmp_ge, wi_getfield, fldv_8_34, fds_8_34, B_X9_tempt_38, B_X9_tempt_41, wi_iastore, wi_iinc, wi_goto, cnt_40, aTy_40, aLn_40, arr_40, cnt_49, aTy_49, aLn_49, arr_49, cnt_50, aTy_50, aLn_50, arr_50, B_X9_tempt_48, wi_isub, B_X9_tempt_52, wi_if_lt, wi_istore, B_X9_tempt_59, wi_iload, B_X9_tempt_65, fldv_8_35, fds_8_35, wi_irem, wi_if_ne, B_X9_tempt_87, B_X9_tempt_88, B_X9_tempt_91, B_X9_tempt_98, B_X9_tempt_101, B_X9_tempt_107, wi_iaload, B_X9_tempt_130, B_X9_tempt_136, fldv_8_10, fds_8_10, B_X9_tempt_146, wi_imul, fldv_8_20, fds_8_20, B_X9_tempt_165, wi_if_eq, B_X9_tempt_172, B_X9_tempt_173, wi_iadd, B_X9_tempt_181, no0, no1, nz1, nz2, nz3, nz4, nz5, nz7, nz8, Classical.not_not, bz0, bz1, wi_nil, ld_0, ld_s, isIv_I, isLv_L, isRv_R, true_and, and_true, lset_0, lset_1, lset_s, avw_I, avw_L, avw_R, clr_cons, clr_nil, kst_0, kst_1, kstL_0, kstL_1, addk_I, pA_0, pA_s, pD_0, pD_s, wid_nil, wid_cons, rcv_c, putv_I, putv_L, List.length_cons, List.length_nil, List.set_cons_zero, List.set_cons_succ, not_false_eq_true, Nat.reduceMod, Nat.reduceDiv, Nat.reduceEqDiff, Nat.reduceLT, Nat.reduceLeDiff, Nat.reduceAdd, Nat.reduceSub, reduceIte, Nat.lt_irrefl, Nat.zero_ne_one, Nat.one_ne_zero, Nat.zero_add, List.nil_append, List.cons_append, Option.toList_some, Option.toList_none, forall_const, false_implies, true_implies, false_or, or_false, true_or, or_true, i_le, i_lt, i_eq, i_eq0, i_lt0, i_0le, i_0lt, i_le0, i_in1, i_cl, nI_add, pk_mul, pk_sub, i_div, i_rem, i_sh1, i_bit, i_or, i_and, i_andn, nt_le, nf_le, nt_lt, nf_lt, nt_eq, nf_eq, not_true_eq_false, and_self, and_false, false_and, eq_self, Bool.toNat_true, Bool.toNat_false, i_bool, i_bool1, Bool.false_eq_true, Bool.true_eq_false, reduceCtorEq, i_neg1, i_neg2, i_neg3, i_neg4, i_neg5, i_neg6, i_neg7, i_neg8, i_neg9, i_nega, i_negb, i_negc, i_max2, i_min2])
      refine c_in (inb_le (N := 5) (by decide)) ?_
      try simp (disch := omega) only [no0, no1, nz1, nz2, nz3, nz4, nz5, nz7, nz8, Classical.not_not, bz0, bz1, wi_nil, ld_0, ld_s, isIv_I, isLv_L, isRv_R, true_and, and_true, lset_0, lset_1, lset_s, avw_I, avw_L, avw_R, clr_cons, clr_nil, kst_0, kst_1, kstL_0, kstL_1, addk_I, pA_0, pA_s, pD_0, pD_s, wid_nil, wid_cons, rcv_c, putv_I, putv_L, List.length_cons, List.length_nil, List.set_cons_zero, List.set_cons_succ, not_false_eq_true, Nat.reduceMod, Nat.reduceDiv, Nat.reduceEqDiff, Nat.reduceLT, Nat.reduceLeDiff, Nat.reduceAdd, Nat.reduceSub, reduceIte, Nat.lt_irrefl, Nat.zero_ne_one, Nat.one_ne_zero, Nat.zero_add, List.nil_append, List.cons_append, Option.toList_some, Option.toList_none, forall_const, false_implies, true_implies, false_or, or_false, true_or, or_true, i_le, i_lt, i_eq, i_eq0, i_lt0, i_0le, i_0lt, i_le0, i_in1, i_cl, nI_add, pk_mul, pk_sub, i_div, i_rem, i_sh1, i_bit, i_or, i_and, i_andn, nt_le, nf_le, nt_lt, nf_lt, nt_eq, nf_eq, not_true_eq_false, and_self, and_false, false_and, eq_self, Bool.toNat_true, Bool.toNat_false, i_bool, i_bool1, Bool.false_eq_true, Bool.true_eq_false, reduceCtorEq, i_neg1, i_neg2, i_neg3, i_neg4, i_neg5, i_neg6, i_neg7, i_neg8, i_neg9, i_nega, i_negb, i_negc, i_max2, i_min2, hv, wi_nil]
      repeat (
        first
        | refine s_X9_tempt_0 ?_
        | refine s_X9_tempt_7 ?_
        | refine s_X9_tempt_10 ?_
        | refine s_X9_tempt_17 ?_
        | refine s_X9_tempt_24 ?_
        | refine s_X9_tempt_38 ?_
        | refine s_X9_tempt_41 ?_
        | refine s_X9_tempt_48 ?_
        | refine s_X9_tempt_65 ?_
        | refine s_X9_tempt_87 ?_
        | refine s_X9_tempt_88 ?_
        | refine s_X9_tempt_91 ?_
        | refine s_X9_tempt_98 ?_
        | refine s_X9_tempt_107 ?_
        | refine s_X9_tempt_130 ?_
        | refine s_X9_tempt_136 ?_
        | refine s_X9_tempt_165 ?_
        | refine s_X9_tempt_172 ?_
        | refine s_X9_tempt_173 ?_
        | refine s_X9_tempt_181 ?_
        simp (disch := omega) only [B_X9_tempt_0, wi_aload_n, wi_iload_n, wi_iconst, wi_invokestatic, B_X9_tempt_7, wi_invokevirtual, cnt_8, B_X9_tempt_10, wi_istore_n, wi_if_ge, wi_ireturn, B_X9_tempt_17, B_X9_tempt_19, B_X9_tempt_24, wi_icmp_ge, wi_getfield, fldv_8_34, fds_8_34, B_X9_tempt_38, B_X9_tempt_41, wi_iastore, wi_iinc, wi_goto, cnt_40, aTy_40, aLn_40, arr_40, cnt_49, aTy_49, aLn_49, arr_49, cnt_50, aTy_50, aLn_50, arr_50, B_X9_tempt_48, wi_isub, B_X9_tempt_52, wi_if_lt, wi_istore, B_X9_tempt_59, wi_iload, B_X9_tempt_65, fldv_8_35, fds_8_35, wi_irem, wi_if_ne, B_X9_tempt_87, B_X9_tempt_88, B_X9_tempt_91, B_X9_tempt_98, B_X9_tempt_101, B_X9_tempt_107, wi_iaload, B_X9_tempt_130, B_X9_tempt_136, fldv_8_10, fds_8_10, B_X9_tempt_146, wi_imul, fldv_8_20, fds_8_20, B_X9_tempt_165, wi_if_eq, B_X9_tempt_172, B_X9_tempt_173, wi_iadd, B_X9_tempt_181, no0, no1, nz1, nz2, nz3, nz4, nz5, nz7, nz8, Classical.not_not, bz0, bz1, wi_nil, ld_0, ld_s, isIv_I, isLv_L, isRv_R, true_and, and_true, lset_0, lset_1, lset_s, avw_I, avw_L, avw_R, clr_cons, clr_nil, kst_0, kst_1, kstL_0, kstL_1, addk_I, pA_0, pA_s, pD_0, pD_s, wid_nil, wid_cons, rcv_c, putv_I, putv_L, List.length_cons, List.length_nil, List.set_cons_zero, List.set_cons_succ, not_false_eq_true, Nat.reduceMod, Nat.reduceDiv, Nat.reduceEqDiff, Nat.reduceLT, Nat.reduceLeDiff, Nat.reduceAdd, Nat.reduceSub, reduceIte, Nat.lt_irrefl, Nat.zero_ne_one, Nat.one_ne_zero, Nat.zero_add, List.nil_append, List.cons_append, Option.toList_some, Option.toList_none, forall_const, false_implies, true_implies, false_or, or_false, true_or, or_true, i_le, i_lt, i_eq, i_eq0, i_lt0, i_0le, i_0lt, i_le0, i_in1, i_cl, nI_add, pk_mul, pk_sub, i_div, i_rem, i_sh1, i_bit, i_or, i_and, i_andn, nt_le, nf_le, nt_lt, nf_lt, nt_eq, nf_eq, not_true_eq_false, and_self, and_false, false_and, eq_self, Bool.toNat_true, Bool.toNat_false, i_bool, i_bool1, Bool.false_eq_true, Bool.true_eq_false, reduceCtorEq, i_neg1, i_neg2, i_neg3, i_neg4, i_neg5, i_neg6, i_neg7, i_neg8, i_neg9, i_nega, i_negb, i_negc, i_max2, i_min2, hv])
      refine c_needK hm2 hn5 e0 ?_
      try simp (disch := omega) only [no0, no1, nz1, nz2, nz3, nz4, nz5, nz7, nz8, Classical.not_not, bz0, bz1, wi_nil, ld_0, ld_s, isIv_I, isLv_L, isRv_R, true_and, and_true, lset_0, lset_1, lset_s, avw_I, avw_L, avw_R, clr_cons, clr_nil, kst_0, kst_1, kstL_0, kstL_1, addk_I, pA_0, pA_s, pD_0, pD_s, wid_nil, wid_cons, rcv_c, putv_I, putv_L, List.length_cons, List.length_nil, List.set_cons_zero, List.set_cons_succ, not_false_eq_true, Nat.reduceMod, Nat.reduceDiv, Nat.reduceEqDiff, Nat.reduceLT, Nat.reduceLeDiff, Nat.reduceAdd, Nat.reduceSub, reduceIte, Nat.lt_irrefl, Nat.zero_ne_one, Nat.one_ne_zero, Nat.zero_add, List.nil_append, List.cons_append, Option.toList_some, Option.toList_none, forall_const, false_implies, true_implies, false_or, or_false, true_or, or_true, i_le, i_lt, i_eq, i_eq0, i_lt0, i_0le, i_0lt, i_le0, i_in1, i_cl, nI_add, pk_mul, pk_sub, i_div, i_rem, i_sh1, i_bit, i_or, i_and, i_andn, nt_le, nf_le, nt_lt, nf_lt, nt_eq, nf_eq, not_true_eq_false, and_self, and_false, false_and, eq_self, Bool.toNat_true, Bool.toNat_false, i_bool, i_bool1, Bool.false_eq_true, Bool.true_eq_false, reduceCtorEq, i_neg1, i_neg2, i_neg3, i_neg4, i_neg5, i_neg6, i_neg7, i_neg8, i_neg9, i_nega, i_negb, i_negc, i_max2, i_min2, wi_nil]
      repeat (
        first
        | refine s_X9_tempt_0 ?_
        | refine s_X9_tempt_7 ?_
        | refine s_X9_tempt_10 ?_
        | refine s_X9_tempt_17 ?_
        | refine s_X9_tempt_24 ?_
        | refine s_X9_tempt_38 ?_
        | refine s_X9_tempt_41 ?_
        | refine s_X9_tempt_48 ?_
        | refine s_X9_tempt_65 ?_
        | refine s_X9_tempt_87 ?_
        | refine s_X9_tempt_88 ?_
        | refine s_X9_tempt_91 ?_
        | refine s_X9_tempt_98 ?_
        | refine s_X9_tempt_107 ?_
        | refine s_X9_tempt_130 ?_
        | refine s_X9_tempt_136 ?_
        | refine s_X9_tempt_165 ?_
        | refine s_X9_tempt_172 ?_
        | refine s_X9_tempt_173 ?_
        | refine s_X9_tempt_181 ?_
        simp (disch := omega) only [B_X9_tempt_0, wi_aload_n, wi_iload_n, wi_iconst, wi_invokestatic, B_X9_tempt_7, wi_invokevirtual, cnt_8, B_X9_tempt_10, wi_istore_n, wi_if_ge, wi_ireturn, B_X9_tempt_17, B_X9_tempt_19, B_X9_tempt_24, wi_icmp_ge, wi_getfield, fldv_8_34, fds_8_34, B_X9_tempt_38, B_X9_tempt_41, wi_iastore, wi_iinc, wi_goto, cnt_40, aTy_40, aLn_40, arr_40, cnt_49, aTy_49, aLn_49, arr_49, cnt_50, aTy_50, aLn_50, arr_50, B_X9_tempt_48, wi_isub, B_X9_tempt_52, wi_if_lt, wi_istore, B_X9_tempt_59, wi_iload, B_X9_tempt_65, fldv_8_35, fds_8_35, wi_irem, wi_if_ne, B_X9_tempt_87, B_X9_tempt_88, B_X9_tempt_91, B_X9_tempt_98, B_X9_tempt_101, B_X9_tempt_107, wi_iaload, B_X9_tempt_130, B_X9_tempt_136, fldv_8_10, fds_8_10, B_X9_tempt_146, wi_imul, fldv_8_20, fds_8_20, B_X9_tempt_165, wi_if_eq, B_X9_tempt_172, B_X9_tempt_173, wi_iadd, B_X9_tempt_181, no0, no1, nz1, nz2, nz3, nz4, nz5, nz7, nz8, Classical.not_not, bz0, bz1, wi_nil, ld_0, ld_s, isIv_I, isLv_L, isRv_R, true_and, and_true, lset_0, lset_1, lset_s, avw_I, avw_L, avw_R, clr_cons, clr_nil, kst_0, kst_1, kstL_0, kstL_1, addk_I, pA_0, pA_s, pD_0, pD_s, wid_nil, wid_cons, rcv_c, putv_I, putv_L, List.length_cons, List.length_nil, List.set_cons_zero, List.set_cons_succ, not_false_eq_true, Nat.reduceMod, Nat.reduceDiv, Nat.reduceEqDiff, Nat.reduceLT, Nat.reduceLeDiff, Nat.reduceAdd, Nat.reduceSub, reduceIte, Nat.lt_irrefl, Nat.zero_ne_one, Nat.one_ne_zero, Nat.zero_add, List.nil_append, List.cons_append, Option.toList_some, Option.toList_none, forall_const, false_implies, true_implies, false_or, or_false, true_or, or_true, i_le, i_lt, i_eq, i_eq0, i_lt0, i_0le, i_0lt, i_le0, i_in1, i_cl, nI_add, pk_mul, pk_sub, i_div, i_rem, i_sh1, i_bit, i_or, i_and, i_andn, nt_le, nf_le, nt_lt, nf_lt, nt_eq, nf_eq, not_true_eq_false, and_self, and_false, false_and, eq_self, Bool.toNat_true, Bool.toNat_false, i_bool, i_bool1, Bool.false_eq_true, Bool.true_eq_false, reduceCtorEq, i_neg1, i_neg2, i_neg3, i_neg4, i_neg5, i_neg6, i_neg7, i_neg8, i_neg9, i_nega, i_negb, i_negc, i_max2, i_min2])
      refine l_t0 (v := v) (S0 := sA S 26 1 g) (par v) hm2 hok (fun S2 g2 f2 => ?_) (3 ^ Y 6 0) 0 _ (by omega) (fun x h => absurd h (Nat.not_lt_zero x)) Fr.refl
      refine s_X9_tempt_48 ?_
      simp only [B_X9_tempt_48, wi_iload_n, wi_iconst, wi_isub, wi_istore_n, no0, no1, nz1, nz2, nz3, nz4, nz5, nz7, nz8, Classical.not_not, bz0, bz1, wi_nil, ld_0, ld_s, isIv_I, isLv_L, isRv_R, true_and, and_true, lset_0, lset_1, lset_s, avw_I, avw_L, avw_R, clr_cons, clr_nil, kst_0, kst_1, kstL_0, kstL_1, addk_I, pA_0, pA_s, pD_0, pD_s, wid_nil, wid_cons, rcv_c, putv_I, putv_L, List.length_cons, List.length_nil, List.set_cons_zero, List.set_cons_succ, not_false_eq_true, Nat.reduceMod, Nat.reduceDiv, Nat.reduceEqDiff, Nat.reduceLT, Nat.reduceLeDiff, Nat.reduceAdd, Nat.reduceSub, reduceIte, Nat.lt_irrefl, Nat.zero_ne_one, Nat.one_ne_zero, Nat.zero_add, List.nil_append, List.cons_append, Option.toList_some, Option.toList_none, forall_const, false_implies, true_implies, false_or, or_false, true_or, or_true]
      rw [tI_sub (by omega)]
      have hmS2 : YrM S2 40 Y := yrm_fr hm2 f2 rfl rfl
      refine l_t3 (v := v) (S0 := S2) (by omega) hmS2 hok (fun S3 g3 f3 => ?_) v S2 (Nat.le_refl v) (by rw [Nat.sub_self]; exact g2) Fr.refl
      have hm3 : YrM S3 40 Y := yrm_fr hmS2 f3 rfl rfl
      refine s_X9_tempt_136 ?_
      simp only [B_X9_tempt_136, wi_iconst, wi_istore_n, wi_aload_n, wi_getfield, fldv_8_10, fds_8_10, cnt_8, wi_isub, wi_istore, no0, no1, nz1, nz2, nz3, nz4, nz5, nz7, nz8, Classical.not_not, bz0, bz1, wi_nil, ld_0, ld_s, isIv_I, isLv_L, isRv_R, true_and, and_true, lset_0, lset_1, lset_s, avw_I, avw_L, avw_R, clr_cons, clr_nil, kst_0, kst_1, kstL_0, kstL_1, addk_I, pA_0, pA_s, pD_0, pD_s, wid_nil, wid_cons, rcv_c, putv_I, putv_L, List.length_cons, List.length_nil, List.set_cons_zero, List.set_cons_succ, not_false_eq_true, Nat.reduceMod, Nat.reduceDiv, Nat.reduceEqDiff, Nat.reduceLT, Nat.reduceLeDiff, Nat.reduceAdd, Nat.reduceSub, reduceIte, Nat.lt_irrefl, Nat.zero_ne_one, Nat.one_ne_zero, Nat.zero_add, List.nil_append, List.cons_append, Option.toList_some, Option.toList_none, forall_const, false_implies, true_implies, false_or, or_false, true_or, or_true, (m_n hm3)]
      rw [tI_sub (by omega)]
      have h4 := l_t4 (d := d) (P := PM (nI (TT (ycz Y) v (yop Y) (Y 6 2 : Int) true))) hm3 hok ?_ (Y 6 0) (Nat.le_refl _)
      · rw [Nat.sub_self] at h4
        exact h4
      · have ge := g3 _ z3
        rw [hfin] at ge
        try simp (disch := omega) only [no0, no1, nz1, nz2, nz3, nz4, nz5, nz7, nz8, Classical.not_not, bz0, bz1, wi_nil, ld_0, ld_s, isIv_I, isLv_L, isRv_R, true_and, and_true, lset_0, lset_1, lset_s, avw_I, avw_L, avw_R, clr_cons, clr_nil, kst_0, kst_1, kstL_0, kstL_1, addk_I, pA_0, pA_s, pD_0, pD_s, wid_nil, wid_cons, rcv_c, putv_I, putv_L, List.length_cons, List.length_nil, List.set_cons_zero, List.set_cons_succ, not_false_eq_true, Nat.reduceMod, Nat.reduceDiv, Nat.reduceEqDiff, Nat.reduceLT, Nat.reduceLeDiff, Nat.reduceAdd, Nat.reduceSub, reduceIte, Nat.lt_irrefl, Nat.zero_ne_one, Nat.one_ne_zero, Nat.zero_add, List.nil_append, List.cons_append, Option.toList_some, Option.toList_none, forall_const, false_implies, true_implies, false_or, or_false, true_or, or_true, i_le, i_lt, i_eq, i_eq0, i_lt0, i_0le, i_0lt, i_le0, i_in1, i_cl, nI_add, pk_mul, pk_sub, i_div, i_rem, i_sh1, i_bit, i_or, i_and, i_andn, nt_le, nf_le, nt_lt, nf_lt, nt_eq, nf_eq, not_true_eq_false, and_self, and_false, false_and, eq_self, Bool.toNat_true, Bool.toNat_false, i_bool, i_bool1, Bool.false_eq_true, Bool.true_eq_false, reduceCtorEq, i_neg1, i_neg2, i_neg3, i_neg4, i_neg5, i_neg6, i_neg7, i_neg8, i_neg9, i_nega, i_negb, i_negc, i_max2, i_min2, ge, wi_nil]
        repeat (
          first
          | refine s_X9_tempt_0 ?_
          | refine s_X9_tempt_7 ?_
          | refine s_X9_tempt_10 ?_
          | refine s_X9_tempt_17 ?_
          | refine s_X9_tempt_24 ?_
          | refine s_X9_tempt_38 ?_
          | refine s_X9_tempt_41 ?_
          | refine s_X9_tempt_48 ?_
          | refine s_X9_tempt_65 ?_
          | refine s_X9_tempt_87 ?_
          | refine s_X9_tempt_88 ?_
          | refine s_X9_tempt_91 ?_
          | refine s_X9_tempt_98 ?_
          | refine s_X9_tempt_107 ?_
          | refine s_X9_tempt_130 ?_
          | refine s_X9_tempt_136 ?_
          | refine s_X9_tempt_165 ?_
          | refine s_X9_tempt_172 ?_
          | refine s_X9_tempt_173 ?_
          | refine s_X9_tempt_181 ?_
          simp (disch := omega) only [B_X9_tempt_0, wi_aload_n, wi_iload_n, wi_iconst, wi_invokestatic, B_X9_tempt_7, wi_invokevirtual, cnt_8, B_X9_tempt_10, wi_istore_n, wi_if_ge, wi_ireturn, B_X9_tempt_17, B_X9_tempt_19, B_X9_tempt_24, wi_icmp_ge, wi_getfield, fldv_8_34, fds_8_34, B_X9_tempt_38, B_X9_tempt_41, wi_iastore, wi_iinc, wi_goto, cnt_40, aTy_40, aLn_40, arr_40, cnt_49, aTy_49, aLn_49, arr_49, cnt_50, aTy_50, aLn_50, arr_50, B_X9_tempt_48, wi_isub, B_X9_tempt_52, wi_if_lt, wi_istore, B_X9_tempt_59, wi_iload, B_X9_tempt_65, fldv_8_35, fds_8_35, wi_irem, wi_if_ne, B_X9_tempt_87, B_X9_tempt_88, B_X9_tempt_91, B_X9_tempt_98, B_X9_tempt_101, B_X9_tempt_107, wi_iaload, B_X9_tempt_130, B_X9_tempt_136, fldv_8_10, fds_8_10, B_X9_tempt_146, wi_imul, fldv_8_20, fds_8_20, B_X9_tempt_165, wi_if_eq, B_X9_tempt_172, B_X9_tempt_173, wi_iadd, B_X9_tempt_181, no0, no1, nz1, nz2, nz3, nz4, nz5, nz7, nz8, Classical.not_not, bz0, bz1, wi_nil, ld_0, ld_s, isIv_I, isLv_L, isRv_R, true_and, and_true, lset_0, lset_1, lset_s, avw_I, avw_L, avw_R, clr_cons, clr_nil, kst_0, kst_1, kstL_0, kstL_1, addk_I, pA_0, pA_s, pD_0, pD_s, wid_nil, wid_cons, rcv_c, putv_I, putv_L, List.length_cons, List.length_nil, List.set_cons_zero, List.set_cons_succ, not_false_eq_true, Nat.reduceMod, Nat.reduceDiv, Nat.reduceEqDiff, Nat.reduceLT, Nat.reduceLeDiff, Nat.reduceAdd, Nat.reduceSub, reduceIte, Nat.lt_irrefl, Nat.zero_ne_one, Nat.one_ne_zero, Nat.zero_add, List.nil_append, List.cons_append, Option.toList_some, Option.toList_none, forall_const, false_implies, true_implies, false_or, or_false, true_or, or_true, i_le, i_lt, i_eq, i_eq0, i_lt0, i_0le, i_0lt, i_le0, i_in1, i_cl, nI_add, pk_mul, pk_sub, i_div, i_rem, i_sh1, i_bit, i_or, i_and, i_andn, nt_le, nf_le, nt_lt, nf_lt, nt_eq, nf_eq, not_true_eq_false, and_self, and_false, false_and, eq_self, Bool.toNat_true, Bool.toNat_false, i_bool, i_bool1, Bool.false_eq_true, Bool.true_eq_false, reduceCtorEq, i_neg1, i_neg2, i_neg3, i_neg4, i_neg5, i_neg6, i_neg7, i_neg8, i_neg9, i_nega, i_negb, i_negc, i_max2, i_min2, ge])
        exact pm (rr_fs h ((fs_26.trans f2).trans f3))
end
