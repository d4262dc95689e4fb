-- PART 44: spare
section
variable {d B : Nat} {S : MS} {Y Y0 : Nat → Nat → Nat} {P : Option AV → MS → Prop}
theorem ylos_le (ho : YOk B Y) (s : Nat) : ylos Y s ≤ 45 := by
  have hn5 := ho.1.1
  have hf : ∀ i, i < Y 6 0 → (if s.testBit i then Y 2 i - shr (Y 0 i) (Y 2 i) else 0) ≤ 9 := fun i hi => by have := ho.2 i hi; split <;> omega
  have := sm_le9 (Y := Y) (f := fun i => if s.testBit i then Y 2 i - shr (Y 0 i) (Y 2 i) else 0) hn5 hf (Nat.le_refl (Y 6 0))
  exact this
theorem l_savedBy {s : Nat} (hm : YrM S 40 Y) (ho : YOk B Y) (hs : s < 32) (q : P (some (aI (nI (ylos Y s)))) S) : ∀ (n i : Nat), i + n = Y 6 0 → wpX (d + 1) mX9_savedBy 4 [aR 8 0, aI (nI s), aI (nI (fb_sm (fun i => if s.testBit i then Y 2 i - shr (Y 0 i) (Y 2 i) else 0) i)), aI (nI i)] [] S P := by
  have hn5 := ho.1.1
  have hf : ∀ i, i < Y 6 0 → (if s.testBit i then Y 2 i - shr (Y 0 i) (Y 2 i) else 0) ≤ 9 := fun i hi => by have := ho.2 i hi; split <;> omega
  intro n
  induction n with
  | zero =>
    intro i hi
    have e : i = Y 6 0 := by omega
    subst e
    refine s_X9_savedBy_4 ?_
    simp (disch := omega) only [B_X9_savedBy_4, wi_iload_n, wi_aload_n, wi_getfield, fldv_8_10, fds_8_10, cnt_8, wi_icmp_ge, wi_invokestatic, no0, no1, nz1, nz2, nz3, nz4, nz5, nz7, nz8, Classical.not_not, bz0, bz1, wi_nil, ld_0, ld_s, isIv_I, isLv_L, isRv_R, true_and, and_true, lset_0, lset_1, lset_s, avw_I, avw_L, avw_R, clr_cons, clr_nil, kst_0, kst_1, kstL_0, kstL_1, addk_I, pA_0, pA_s, pD_0, pD_s, wid_nil, wid_cons, rcv_c, putv_I, putv_L, List.length_cons, List.length_nil, List.set_cons_zero, List.set_cons_succ, not_false_eq_true, Nat.reduceMod, Nat.reduceDiv, Nat.reduceEqDiff, Nat.reduceLT, Nat.reduceLeDiff, Nat.reduceAdd, Nat.reduceSub, reduceIte, Nat.lt_irrefl, Nat.zero_ne_one, Nat.one_ne_zero, Nat.zero_add, List.nil_append, List.cons_append, Option.toList_some, Option.toList_none, forall_const, false_implies, true_implies, false_or, or_false, true_or, or_true, i_le, i_lt, i_eq, i_eq0, i_lt0, i_0le, i_0lt, i_le0, i_in1, i_cl, nI_add, pk_mul, pk_sub, i_div, i_rem, i_sh1, i_bit, i_or, i_and, i_andn, nt_le, nf_le, nt_lt, nf_lt, nt_eq, nf_eq, not_true_eq_false, and_self, and_false, false_and, eq_self, Bool.toNat_true, Bool.toNat_false, i_bool, i_bool1, Bool.false_eq_true, Bool.true_eq_false, reduceCtorEq, i_neg1, i_neg2, i_neg3, i_neg4, i_neg5, i_neg6, i_neg7, i_neg8, i_neg9, i_nega, i_negb, i_negc, i_max2, i_min2, (m_n hm)]
    try simp (disch := omega) only [no0, no1, nz1, nz2, nz3, nz4, nz5, nz7, nz8, Classical.not_not, bz0, bz1, wi_nil, ld_0, ld_s, isIv_I, isLv_L, isRv_R, true_and, and_true, lset_0, lset_1, lset_s, avw_I, avw_L, avw_R, clr_cons, clr_nil, kst_0, kst_1, kstL_0, kstL_1, addk_I, pA_0, pA_s, pD_0, pD_s, wid_nil, wid_cons, rcv_c, putv_I, putv_L, List.length_cons, List.length_nil, List.set_cons_zero, List.set_cons_succ, not_false_eq_true, Nat.reduceMod, Nat.reduceDiv, Nat.reduceEqDiff, Nat.reduceLT, Nat.reduceLeDiff, Nat.reduceAdd, Nat.reduceSub, reduceIte, Nat.lt_irrefl, Nat.zero_ne_one, Nat.one_ne_zero, Nat.zero_add, List.nil_append, List.cons_append, Option.toList_some, Option.toList_none, forall_const, false_implies, true_implies, false_or, or_false, true_or, or_true, i_le, i_lt, i_eq, i_eq0, i_lt0, i_0le, i_0lt, i_le0, i_in1, i_cl, nI_add, pk_mul, pk_sub, i_div, i_rem, i_sh1, i_bit, i_or, i_and, i_andn, nt_le, nf_le, nt_lt, nf_lt, nt_eq, nf_eq, not_true_eq_false, and_self, and_false, false_and, eq_self, Bool.toNat_true, Bool.toNat_false, i_bool, i_bool1, Bool.false_eq_true, Bool.true_eq_false, reduceCtorEq, i_neg1, i_neg2, i_neg3, i_neg4, i_neg5, i_neg6, i_neg7, i_neg8, i_neg9, i_nega, i_negb, i_negc, i_max2, i_min2, wi_nil]
    repeat (
      first
      | refine s_X9_savedBy_0 ?_
      | refine s_X9_savedBy_18 ?_
      | refine s_X9_savedBy_38 ?_
      | refine s_X9_savedBy_42 ?_
      | refine s_X9_savedBy_43 ?_
      | refine s_X9_savedBy_51 ?_
      simp (disch := omega) only [B_X9_savedBy_0, wi_iconst, wi_istore_n, B_X9_savedBy_4, wi_iload_n, wi_aload_n, wi_getfield, fldv_8_10, fds_8_10, cnt_8, wi_icmp_ge, wi_invokestatic, B_X9_savedBy_18, wi_if_eq, fldv_8_20, fds_8_20, wi_iadd, wi_iaload, wi_invokevirtual, cnt_40, aTy_40, aLn_40, arr_40, B_X9_savedBy_38, wi_isub, wi_goto, B_X9_savedBy_42, B_X9_savedBy_43, wi_iinc, B_X9_savedBy_51, wi_ireturn, no0, no1, nz1, nz2, nz3, nz4, nz5, nz7, nz8, Classical.not_not, bz0, bz1, wi_nil, ld_0, ld_s, isIv_I, isLv_L, isRv_R, true_and, and_true, lset_0, lset_1, lset_s, avw_I, avw_L, avw_R, clr_cons, clr_nil, kst_0, kst_1, kstL_0, kstL_1, addk_I, pA_0, pA_s, pD_0, pD_s, wid_nil, wid_cons, rcv_c, putv_I, putv_L, List.length_cons, List.length_nil, List.set_cons_zero, List.set_cons_succ, not_false_eq_true, Nat.reduceMod, Nat.reduceDiv, Nat.reduceEqDiff, Nat.reduceLT, Nat.reduceLeDiff, Nat.reduceAdd, Nat.reduceSub, reduceIte, Nat.lt_irrefl, Nat.zero_ne_one, Nat.one_ne_zero, Nat.zero_add, List.nil_append, List.cons_append, Option.toList_some, Option.toList_none, forall_const, false_implies, true_implies, false_or, or_false, true_or, or_true, i_le, i_lt, i_eq, i_eq0, i_lt0, i_0le, i_0lt, i_le0, i_in1, i_cl, nI_add, pk_mul, pk_sub, i_div, i_rem, i_sh1, i_bit, i_or, i_and, i_andn, nt_le, nf_le, nt_lt, nf_lt, nt_eq, nf_eq, not_true_eq_false, and_self, and_false, false_and, eq_self, Bool.toNat_true, Bool.toNat_false, i_bool, i_bool1, Bool.false_eq_true, Bool.true_eq_false, reduceCtorEq, i_neg1, i_neg2, i_neg3, i_neg4, i_neg5, i_neg6, i_neg7, i_neg8, i_neg9, i_nega, i_negb, i_negc, i_max2, i_min2])
    exact q
  | succ n ih =>
    intro i hi
    have hsm := sm_le9 (Y := Y) hn5 hf (show i ≤ Y 6 0 by omega)
    have hb := ho.2 i (by omega)
    have hsl := shr_le (k := Y 0 i) (h := Y 2 i)
    have next := ih (i + 1) (by omega)
    rw [fb_sm_succ] at next
    refine s_X9_savedBy_4 ?_
    simp (disch := omega) only [B_X9_savedBy_4, wi_iload_n, wi_aload_n, wi_getfield, fldv_8_10, fds_8_10, cnt_8, wi_icmp_ge, wi_invokestatic, no0, no1, nz1, nz2, nz3, nz4, nz5, nz7, nz8, Classical.not_not, bz0, bz1, wi_nil, ld_0, ld_s, isIv_I, isLv_L, isRv_R, true_and, and_true, lset_0, lset_1, lset_s, avw_I, avw_L, avw_R, clr_cons, clr_nil, kst_0, kst_1, kstL_0, kstL_1, addk_I, pA_0, pA_s, pD_0, pD_s, wid_nil, wid_cons, rcv_c, putv_I, putv_L, List.length_cons, List.length_nil, List.set_cons_zero, List.set_cons_succ, not_false_eq_true, Nat.reduceMod, Nat.reduceDiv, Nat.reduceEqDiff, Nat.reduceLT, Nat.reduceLeDiff, Nat.reduceAdd, Nat.reduceSub, reduceIte, Nat.lt_irrefl, Nat.zero_ne_one, Nat.one_ne_zero, Nat.zero_add, List.nil_append, List.cons_append, Option.toList_some, Option.toList_none, forall_const, false_implies, true_implies, false_or, or_false, true_or, or_true, i_le, i_lt, i_eq, i_eq0, i_lt0, i_0le, i_0lt, i_le0, i_in1, i_cl, nI_add, pk_mul, pk_sub, i_div, i_rem, i_sh1, i_bit, i_or, i_and, i_andn, nt_le, nf_le, nt_lt, nf_lt, nt_eq, nf_eq, not_true_eq_false, and_self, and_false, false_and, eq_self, Bool.toNat_true, Bool.toNat_false, i_bool, i_bool1, Bool.false_eq_true, Bool.true_eq_false, reduceCtorEq, i_neg1, i_neg2, i_neg3, i_neg4, i_neg5, i_neg6, i_neg7, i_neg8, i_neg9, i_nega, i_negb, i_negc, i_max2, i_min2, (m_n hm)]
    refine c_has (by omega) (by omega) ?_
    cases hbt : s.testBit i
    · rw [hbt, if_neg (by decide)] at next
      try simp (disch := omega) only [no0, no1, nz1, nz2, nz3, nz4, nz5, nz7, nz8, Classical.not_not, bz0, bz1, wi_nil, ld_0, ld_s, isIv_I, isLv_L, isRv_R, true_and, and_true, lset_0, lset_1, lset_s, avw_I, avw_L, avw_R, clr_cons, clr_nil, kst_0, kst_1, kstL_0, kstL_1, addk_I, pA_0, pA_s, pD_0, pD_s, wid_nil, wid_cons, rcv_c, putv_I, putv_L, List.length_cons, List.length_nil, List.set_cons_zero, List.set_cons_succ, not_false_eq_true, Nat.reduceMod, Nat.reduceDiv, Nat.reduceEqDiff, Nat.reduceLT, Nat.reduceLeDiff, Nat.reduceAdd, Nat.reduceSub, reduceIte, Nat.lt_irrefl, Nat.zero_ne_one, Nat.one_ne_zero, Nat.zero_add, List.nil_append, List.cons_append, Option.toList_some, Option.toList_none, forall_const, false_implies, true_implies, false_or, or_false, true_or, or_true, i_le, i_lt, i_eq, i_eq0, i_lt0, i_0le, i_0lt, i_le0, i_in1, i_cl, nI_add, pk_mul, pk_sub, i_div, i_rem, i_sh1, i_bit, i_or, i_and, i_andn, nt_le, nf_le, nt_lt, nf_lt, nt_eq, nf_eq, not_true_eq_false, and_self, and_false, false_and, eq_self, Bool.toNat_true, Bool.toNat_false, i_bool, i_bool1, Bool.false_eq_true, Bool.true_eq_false, reduceCtorEq, i_neg1, i_neg2, i_neg3, i_neg4, i_neg5, i_neg6, i_neg7, i_neg8, i_neg9, i_nega, i_negb, i_negc, i_max2, i_min2, wi_nil]
      repeat (
        first
        | refine s_X9_savedBy_0 ?_
        | refine s_X9_savedBy_18 ?_
        | refine s_X9_savedBy_38 ?_
        | refine s_X9_savedBy_42 ?_
        | refine s_X9_savedBy_43 ?_
        | refine s_X9_savedBy_51 ?_
        simp (disch := omega) only [B_X9_savedBy_0, wi_iconst, wi_istore_n, B_X9_savedBy_4, wi_iload_n, wi_aload_n, wi_getfield, fldv_8_10, fds_8_10, cnt_8, wi_icmp_ge, wi_invokestatic, B_X9_savedBy_18, wi_if_eq, fldv_8_20, fds_8_20, wi_iadd, wi_iaload, wi_invokevirtual, cnt_40, aTy_40, aLn_40, arr_40, B_X9_savedBy_38, wi_isub, wi_goto, B_X9_savedBy_42, B_X9_savedBy_43, wi_iinc, B_X9_savedBy_51, wi_ireturn, no0, no1, nz1, nz2, nz3, nz4, nz5, nz7, nz8, Classical.not_not, bz0, bz1, wi_nil, ld_0, ld_s, isIv_I, isLv_L, isRv_R, true_and, and_true, lset_0, lset_1, lset_s, avw_I, avw_L, avw_R, clr_cons, clr_nil, kst_0, kst_1, kstL_0, kstL_1, addk_I, pA_0, pA_s, pD_0, pD_s, wid_nil, wid_cons, rcv_c, putv_I, putv_L, List.length_cons, List.length_nil, List.set_cons_zero, List.set_cons_succ, not_false_eq_true, Nat.reduceMod, Nat.reduceDiv, Nat.reduceEqDiff, Nat.reduceLT, Nat.reduceLeDiff, Nat.reduceAdd, Nat.reduceSub, reduceIte, Nat.lt_irrefl, Nat.zero_ne_one, Nat.one_ne_zero, Nat.zero_add, List.nil_append, List.cons_append, Option.toList_some, Option.toList_none, forall_const, false_implies, true_implies, false_or, or_false, true_or, or_true, i_le, i_lt, i_eq, i_eq0, i_lt0, i_0le, i_0lt, i_le0, i_in1, i_cl, nI_add, pk_mul, pk_sub, i_div, i_rem, i_sh1, i_bit, i_or, i_and, i_andn, nt_le, nf_le, nt_lt, nf_lt, nt_eq, nf_eq, not_true_eq_false, and_self, and_false, false_and, eq_self, Bool.toNat_true, Bool.toNat_false, i_bool, i_bool1, Bool.false_eq_true, Bool.true_eq_false, reduceCtorEq, i_neg1, i_neg2, i_neg3, i_neg4, i_neg5, i_neg6, i_neg7, i_neg8, i_neg9, i_nega, i_negb, i_negc, i_max2, i_min2])
      exact next
    · rw [hbt, if_pos rfl] at next
      try simp (disch := omega) only [no0, no1, nz1, nz2, nz3, nz4, nz5, nz7, nz8, Classical.not_not, bz0, bz1, wi_nil, ld_0, ld_s, isIv_I, isLv_L, isRv_R, true_and, and_true, lset_0, lset_1, lset_s, avw_I, avw_L, avw_R, clr_cons, clr_nil, kst_0, kst_1, kstL_0, kstL_1, addk_I, pA_0, pA_s, pD_0, pD_s, wid_nil, wid_cons, rcv_c, putv_I, putv_L, List.length_cons, List.length_nil, List.set_cons_zero, List.set_cons_succ, not_false_eq_true, Nat.reduceMod, Nat.reduceDiv, Nat.reduceEqDiff, Nat.reduceLT, Nat.reduceLeDiff, Nat.reduceAdd, Nat.reduceSub, reduceIte, Nat.lt_irrefl, Nat.zero_ne_one, Nat.one_ne_zero, Nat.zero_add, List.nil_append, List.cons_append, Option.toList_some, Option.toList_none, forall_const, false_implies, true_implies, false_or, or_false, true_or, or_true, i_le, i_lt, i_eq, i_eq0, i_lt0, i_0le, i_0lt, i_le0, i_in1, i_cl, nI_add, pk_mul, pk_sub, i_div, i_rem, i_sh1, i_bit, i_or, i_and, i_andn, nt_le, nf_le, nt_lt, nf_lt, nt_eq, nf_eq, not_true_eq_false, and_self, and_false, false_and, eq_self, Bool.toNat_true, Bool.toNat_false, i_bool, i_bool1, Bool.false_eq_true, Bool.true_eq_false, reduceCtorEq, i_neg1, i_neg2, i_neg3, i_neg4, i_neg5, i_neg6, i_neg7, i_neg8, i_neg9, i_nega, i_negb, i_negc, i_max2, i_min2, (m_hab hm), wi_nil]
      repeat (
        first
        | refine s_X9_savedBy_0 ?_
        | refine s_X9_savedBy_18 ?_
        | refine s_X9_savedBy_38 ?_
        | refine s_X9_savedBy_42 ?_
        | refine s_X9_savedBy_43 ?_
        | refine s_X9_savedBy_51 ?_
        simp (disch := omega) only [B_X9_savedBy_0, wi_iconst, wi_istore_n, B_X9_savedBy_4, wi_iload_n, wi_aload_n, wi_getfield, fldv_8_10, fds_8_10, cnt_8, wi_icmp_ge, wi_invokestatic, B_X9_savedBy_18, wi_if_eq, fldv_8_20, fds_8_20, wi_iadd, wi_iaload, wi_invokevirtual, cnt_40, aTy_40, aLn_40, arr_40, B_X9_savedBy_38, wi_isub, wi_goto, B_X9_savedBy_42, B_X9_savedBy_43, wi_iinc, B_X9_savedBy_51, wi_ireturn, no0, no1, nz1, nz2, nz3, nz4, nz5, nz7, nz8, Classical.not_not, bz0, bz1, wi_nil, ld_0, ld_s, isIv_I, isLv_L, isRv_R, true_and, and_true, lset_0, lset_1, lset_s, avw_I, avw_L, avw_R, clr_cons, clr_nil, kst_0, kst_1, kstL_0, kstL_1, addk_I, pA_0, pA_s, pD_0, pD_s, wid_nil, wid_cons, rcv_c, putv_I, putv_L, List.length_cons, List.length_nil, List.set_cons_zero, List.set_cons_succ, not_false_eq_true, Nat.reduceMod, Nat.reduceDiv, Nat.reduceEqDiff, Nat.reduceLT, Nat.reduceLeDiff, Nat.reduceAdd, Nat.reduceSub, reduceIte, Nat.lt_irrefl, Nat.zero_ne_one, Nat.one_ne_zero, Nat.zero_add, List.nil_append, List.cons_append, Option.toList_some, Option.toList_none, forall_const, false_implies, true_implies, false_or, or_false, true_or, or_true, i_le, i_lt, i_eq, i_eq0, i_lt0, i_0le, i_0lt, i_le0, i_in1, i_cl, nI_add, pk_mul, pk_sub, i_div, i_rem, i_sh1, i_bit, i_or, i_and, i_andn, nt_le, nf_le, nt_lt, nf_lt, nt_eq, nf_eq, not_true_eq_false, and_self, and_false, false_and, eq_self, Bool.toNat_true, Bool.toNat_false, i_bool, i_bool1, Bool.false_eq_true, Bool.true_eq_false, reduceCtorEq, i_neg1, i_neg2, i_neg3, i_neg4, i_neg5, i_neg6, i_neg7, i_neg8, i_neg9, i_nega, i_negb, i_negc, i_max2, i_min2, (m_hab hm)])
      refine c_lessened (Or.inl rfl) hm hb.1 (by omega) (by omega) (by omega) ?_
      try simp (disch := omega) only [no0, no1, nz1, nz2, nz3, nz4, nz5, nz7, nz8, Classical.not_not, bz0, bz1, wi_nil, ld_0, ld_s, isIv_I, isLv_L, isRv_R, true_and, and_true, lset_0, lset_1, lset_s, avw_I, avw_L, avw_R, clr_cons, clr_nil, kst_0, kst_1, kstL_0, kstL_1, addk_I, pA_0, pA_s, pD_0, pD_s, wid_nil, wid_cons, rcv_c, putv_I, putv_L, List.length_cons, List.length_nil, List.set_cons_zero, List.set_cons_succ, not_false_eq_true, Nat.reduceMod, Nat.reduceDiv, Nat.reduceEqDiff, Nat.reduceLT, Nat.reduceLeDiff, Nat.reduceAdd, Nat.reduceSub, reduceIte, Nat.lt_irrefl, Nat.zero_ne_one, Nat.one_ne_zero, Nat.zero_add, List.nil_append, List.cons_append, Option.toList_some, Option.toList_none, forall_const, false_implies, true_implies, false_or, or_false, true_or, or_true, i_le, i_lt, i_eq, i_eq0, i_lt0, i_0le, i_0lt, i_le0, i_in1, i_cl, nI_add, pk_mul, pk_sub, i_div, i_rem, i_sh1, i_bit, i_or, i_and, i_andn, nt_le, nf_le, nt_lt, nf_lt, nt_eq, nf_eq, not_true_eq_false, and_self, and_false, false_and, eq_self, Bool.toNat_true, Bool.toNat_false, i_bool, i_bool1, Bool.false_eq_true, Bool.true_eq_false, reduceCtorEq, i_neg1, i_neg2, i_neg3, i_neg4, i_neg5, i_neg6, i_neg7, i_neg8, i_neg9, i_nega, i_negb, i_negc, i_max2, i_min2, wi_nil]
      repeat (
        first
        | refine s_X9_savedBy_0 ?_
        | refine s_X9_savedBy_18 ?_
        | refine s_X9_savedBy_38 ?_
        | refine s_X9_savedBy_42 ?_
        | refine s_X9_savedBy_43 ?_
        | refine s_X9_savedBy_51 ?_
        simp (disch := omega) only [B_X9_savedBy_0, wi_iconst, wi_istore_n, B_X9_savedBy_4, wi_iload_n, wi_aload_n, wi_getfield, fldv_8_10, fds_8_10, cnt_8, wi_icmp_ge, wi_invokestatic, B_X9_savedBy_18, wi_if_eq, fldv_8_20, fds_8_20, wi_iadd, wi_iaload, wi_invokevirtual, cnt_40, aTy_40, aLn_40, arr_40, B_X9_savedBy_38, wi_isub, wi_goto, B_X9_savedBy_42, B_X9_savedBy_43, wi_iinc, B_X9_savedBy_51, wi_ireturn, no0, no1, nz1, nz2, nz3, nz4, nz5, nz7, nz8, Classical.not_not, bz0, bz1, wi_nil, ld_0, ld_s, isIv_I, isLv_L, isRv_R, true_and, and_true, lset_0, lset_1, lset_s, avw_I, avw_L, avw_R, clr_cons, clr_nil, kst_0, kst_1, kstL_0, kstL_1, addk_I, pA_0, pA_s, pD_0, pD_s, wid_nil, wid_cons, rcv_c, putv_I, putv_L, List.length_cons, List.length_nil, List.set_cons_zero, List.set_cons_succ, not_false_eq_true, Nat.reduceMod, Nat.reduceDiv, Nat.reduceEqDiff, Nat.reduceLT, Nat.reduceLeDiff, Nat.reduceAdd, Nat.reduceSub, reduceIte, Nat.lt_irrefl, Nat.zero_ne_one, Nat.one_ne_zero, Nat.zero_add, List.nil_append, List.cons_append, Option.toList_some, Option.toList_none, forall_const, false_implies, true_implies, false_or, or_false, true_or, or_true, i_le, i_lt, i_eq, i_eq0, i_lt0, i_0le, i_0lt, i_le0, i_in1, i_cl, nI_add, pk_mul, pk_sub, i_div, i_rem, i_sh1, i_bit, i_or, i_and, i_andn, nt_le, nf_le, nt_lt, nf_lt, nt_eq, nf_eq, not_true_eq_false, and_self, and_false, false_and, eq_self, Bool.toNat_true, Bool.toNat_false, i_bool, i_bool1, Bool.false_eq_true, Bool.true_eq_false, reduceCtorEq, i_neg1, i_neg2, i_neg3, i_neg4, i_neg5, i_neg6, i_neg7, i_neg8, i_neg9, i_nega, i_negb, i_negc, i_max2, i_min2])
      exact next
theorem c_savedBy {s : Nat} (hm : YrM S 40 Y) (ho : YOk B Y) (hs : s < 32) (q : P (some (aI (nI (ylos Y s)))) S) : wpM (d + 2) mX9_savedBy [aR 8 0, aI (nI s)] S P := by
  refine x_entry (ls2 := [aR 8 0, aI (nI s), aU, aU]) (Nat.le_of_ble_eq_true rfl) pl_9 rfl (Nat.le_of_ble_eq_true rfl) ?_
  try simp (disch := omega) only [no0, no1, nz1, nz2, nz3, nz4, nz5, nz7, nz8, Classical.not_not, bz0, bz1, wi_nil, ld_0, ld_s, isIv_I, isLv_L, isRv_R, true_and, and_true, lset_0, lset_1, lset_s, avw_I, avw_L, avw_R, clr_cons, clr_nil, kst_0, kst_1, kstL_0, kstL_1, addk_I, pA_0, pA_s, pD_0, pD_s, wid_nil, wid_cons, rcv_c, putv_I, putv_L, List.length_cons, List.length_nil, List.set_cons_zero, List.set_cons_succ, not_false_eq_true, Nat.reduceMod, Nat.reduceDiv, Nat.reduceEqDiff, Nat.reduceLT, Nat.reduceLeDiff, Nat.reduceAdd, Nat.reduceSub, reduceIte, Nat.lt_irrefl, Nat.zero_ne_one, Nat.one_ne_zero, Nat.zero_add, List.nil_append, List.cons_append, Option.toList_some, Option.toList_none, forall_const, false_implies, true_implies, false_or, or_false, true_or, or_true, i_le, i_lt, i_eq, i_eq0, i_lt0, i_0le, i_0lt, i_le0, i_in1, i_cl, nI_add, pk_mul, pk_sub, i_div, i_rem, i_sh1, i_bit, i_or, i_and, i_andn, nt_le, nf_le, nt_lt, nf_lt, nt_eq, nf_eq, not_true_eq_false, and_self, and_false, false_and, eq_self, Bool.toNat_true, Bool.toNat_false, i_bool, i_bool1, Bool.false_eq_true, Bool.true_eq_false, reduceCtorEq, i_neg1, i_neg2, i_neg3, i_neg4, i_neg5, i_neg6, i_neg7, i_neg8, i_neg9, i_nega, i_negb, i_negc, i_max2, i_min2, wi_nil]
  repeat (
    first
    | refine s_X9_savedBy_0 ?_
    | refine s_X9_savedBy_18 ?_
    | refine s_X9_savedBy_38 ?_
    | refine s_X9_savedBy_42 ?_
    | refine s_X9_savedBy_43 ?_
    | refine s_X9_savedBy_51 ?_
    simp (disch := omega) only [B_X9_savedBy_0, wi_iconst, wi_istore_n, B_X9_savedBy_4, wi_iload_n, wi_aload_n, wi_getfield, fldv_8_10, fds_8_10, cnt_8, wi_icmp_ge, wi_invokestatic, B_X9_savedBy_18, wi_if_eq, fldv_8_20, fds_8_20, wi_iadd, wi_iaload, wi_invokevirtual, cnt_40, aTy_40, aLn_40, arr_40, B_X9_savedBy_38, wi_isub, wi_goto, B_X9_savedBy_42, B_X9_savedBy_43, wi_iinc, B_X9_savedBy_51, wi_ireturn, no0, no1, nz1, nz2, nz3, nz4, nz5, nz7, nz8, Classical.not_not, bz0, bz1, wi_nil, ld_0, ld_s, isIv_I, isLv_L, isRv_R, true_and, and_true, lset_0, lset_1, lset_s, avw_I, avw_L, avw_R, clr_cons, clr_nil, kst_0, kst_1, kstL_0, kstL_1, addk_I, pA_0, pA_s, pD_0, pD_s, wid_nil, wid_cons, rcv_c, putv_I, putv_L, List.length_cons, List.length_nil, List.set_cons_zero, List.set_cons_succ, not_false_eq_true, Nat.reduceMod, Nat.reduceDiv, Nat.reduceEqDiff, Nat.reduceLT, Nat.reduceLeDiff, Nat.reduceAdd, Nat.reduceSub, reduceIte, Nat.lt_irrefl, Nat.zero_ne_one, Nat.one_ne_zero, Nat.zero_add, List.nil_append, List.cons_append, Option.toList_some, Option.toList_none, forall_const, false_implies, true_implies, false_or, or_false, true_or, or_true, i_le, i_lt, i_eq, i_eq0, i_lt0, i_0le, i_0lt, i_le0, i_in1, i_cl, nI_add, pk_mul, pk_sub, i_div, i_rem, i_sh1, i_bit, i_or, i_and, i_andn, nt_le, nf_le, nt_lt, nf_lt, nt_eq, nf_eq, not_true_eq_false, and_self, and_false, false_and, eq_self, Bool.toNat_true, Bool.toNat_false, i_bool, i_bool1, Bool.false_eq_true, Bool.true_eq_false, reduceCtorEq, i_neg1, i_neg2, i_neg3, i_neg4, i_neg5, i_neg6, i_neg7, i_neg8, i_neg9, i_nega, i_negb, i_negc, i_max2, i_min2])
  exact l_savedBy hm ho hs q (Y 6 0) 0 (by omega)
theorem sps_lt {n : Nat} : ∀ {i b : Nat}, sps Y n i = some b → b < i := by
  intro i
  induction i with
  | zero => intro b h; cases h
  | succ i ih =>
    intro b h
    rw [sps] at h
    split at h
    · cases h; exact Nat.lt_succ_self _
    · have := ih h; omega
theorem sps_stop (ho : YOk B Y) {n : Nat} : ∀ (m : Nat), 2 ^ Y 6 0 + m ≤ 32 → sps Y n (2 ^ Y 6 0 + m) = sps Y n (2 ^ Y 6 0) := by
  intro m
  induction m with
  | zero => intro _; rfl
  | succ m ih =>
    intro h
    rw [show 2 ^ Y 6 0 + (m + 1) = 2 ^ Y 6 0 + m + 1 by omega, sps, if_neg, ih (by omega)]
    intro q
    unfold spo at q
    have := (subB_iff ho (by omega)).mp (Bool.and_eq_true_iff.mp q).1
    omega
theorem l_xspare {n : Nat} (hn : n ≤ 5) (hy : YrX S 1 Y) (ho : YOk 40 Y) (q : wpX (d + 9) mX8_spare 100 [aR 7 0, aU, aU, aI (wrI (sps Y n 32)), aI (moI Y (sps Y n 32)), aU] [] S P) : ∀ (m j : Nat), j + m = 32 → wpX (d + 9) mX8_spare 41 [aR 7 0, aI (nI n), aI (nI (yop Y)), aI (wrI (sps Y n j)), aI (moI Y (sps Y n j)), aI (nI j)] [] S P := by
  have hyl := yop_lt (Y := Y) ho.1.1
  intro m
  induction m with
  | zero =>
    intro j hj
    have e : j = 32 := by omega
    subst e
    refine s_X8_spare_41 ?_
    simp (disch := omega) only [B_X8_spare_41, wi_iload, wi_bipush, wi_icmp_ge, wi_iload_n, wi_iconst, wi_ixor, wi_iand, wi_if_ne, wi_invokestatic, no0, no1, nz1, nz2, nz3, nz4, nz5, nz7, nz8, Classical.not_not, bz0, bz1, wi_nil, ld_0, ld_s, isIv_I, isLv_L, isRv_R, true_and, and_true, lset_0, lset_1, lset_s, avw_I, avw_L, avw_R, clr_cons, clr_nil, kst_0, kst_1, kstL_0, kstL_1, addk_I, pA_0, pA_s, pD_0, pD_s, wid_nil, wid_cons, rcv_c, putv_I, putv_L, List.length_cons, List.length_nil, List.set_cons_zero, List.set_cons_succ, not_false_eq_true, Nat.reduceMod, Nat.reduceDiv, Nat.reduceEqDiff, Nat.reduceLT, Nat.reduceLeDiff, Nat.reduceAdd, Nat.reduceSub, reduceIte, Nat.lt_irrefl, Nat.zero_ne_one, Nat.one_ne_zero, Nat.zero_add, List.nil_append, List.cons_append, Option.toList_some, Option.toList_none, forall_const, false_implies, true_implies, false_or, or_false, true_or, or_true, i_le, i_lt, i_eq, i_eq0, i_lt0, i_0le, i_0lt, i_le0, i_in1, i_cl, nI_add, pk_mul, pk_sub, i_div, i_rem, i_sh1, i_bit, i_or, i_and, i_andn, nt_le, nf_le, nt_lt, nf_lt, nt_eq, nf_eq, not_true_eq_false, and_self, and_false, false_and, eq_self, Bool.toNat_true, Bool.toNat_false, i_bool, i_bool1, Bool.false_eq_true, Bool.true_eq_false, reduceCtorEq, i_neg1, i_neg2, i_neg3, i_neg4, i_neg5, i_neg6, i_neg7, i_neg8, i_neg9, i_nega, i_negb, i_negc, i_max2, i_min2]
    exact q
  | succ m ih =>
    intro j hj
    have a1 : j &&& (31 - yop Y) < 32 := and_lt32 (by omega)
    have hbj := bct_lt (s := j) (by omega)
    have hyj := ylos_le ho j
    have hnx := ih (j + 1) (by omega)
    rw [sps] at hnx
    unfold spo subB at hnx
    by_cases c1 : j &&& (31 - yop Y) = 0
    · by_cases c2 : bct j = n
      · rw [decide_eq_true c1, decide_eq_true c2, Bool.true_and, Bool.true_and] at hnx
        refine s_X8_spare_41 ?_
        simp (disch := omega) only [B_X8_spare_41, wi_iload, wi_bipush, wi_icmp_ge, wi_iload_n, wi_iconst, wi_ixor, wi_iand, wi_if_ne, wi_invokestatic, no0, no1, nz1, nz2, nz3, nz4, nz5, nz7, nz8, Classical.not_not, bz0, bz1, wi_nil, ld_0, ld_s, isIv_I, isLv_L, isRv_R, true_and, and_true, lset_0, lset_1, lset_s, avw_I, avw_L, avw_R, clr_cons, clr_nil, kst_0, kst_1, kstL_0, kstL_1, addk_I, pA_0, pA_s, pD_0, pD_s, wid_nil, wid_cons, rcv_c, putv_I, putv_L, List.length_cons, List.length_nil, List.set_cons_zero, List.set_cons_succ, not_false_eq_true, Nat.reduceMod, Nat.reduceDiv, Nat.reduceEqDiff, Nat.reduceLT, Nat.reduceLeDiff, Nat.reduceAdd, Nat.reduceSub, reduceIte, Nat.lt_irrefl, Nat.zero_ne_one, Nat.one_ne_zero, Nat.zero_add, List.nil_append, List.cons_append, Option.toList_some, Option.toList_none, forall_const, false_implies, true_implies, false_or, or_false, true_or, or_true, i_le, i_lt, i_eq, i_eq0, i_lt0, i_0le, i_0lt, i_le0, i_in1, i_cl, nI_add, pk_mul, pk_sub, i_div, i_rem, i_sh1, i_bit, i_or, i_and, i_andn, nt_le, nf_le, nt_lt, nf_lt, nt_eq, nf_eq, not_true_eq_false, and_self, and_false, false_and, eq_self, Bool.toNat_true, Bool.toNat_false, i_bool, i_bool1, Bool.false_eq_true, Bool.true_eq_false, reduceCtorEq, i_neg1, i_neg2, i_neg3, i_neg4, i_neg5, i_neg6, i_neg7, i_neg8, i_neg9, i_nega, i_negb, i_negc, i_max2, i_min2]
        refine c_bitCount (by omega) ?_
        try simp (disch := omega) only [no0, no1, nz1, nz2, nz3, nz4, nz5, nz7, nz8, Classical.not_not, bz0, bz1, wi_nil, ld_0, ld_s, isIv_I, isLv_L, isRv_R, true_and, and_true, lset_0, lset_1, lset_s, avw_I, avw_L, avw_R, clr_cons, clr_nil, kst_0, kst_1, kstL_0, kstL_1, addk_I, pA_0, pA_s, pD_0, pD_s, wid_nil, wid_cons, rcv_c, putv_I, putv_L, List.length_cons, List.length_nil, List.set_cons_zero, List.set_cons_succ, not_false_eq_true, Nat.reduceMod, Nat.reduceDiv, Nat.reduceEqDiff, Nat.reduceLT, Nat.reduceLeDiff, Nat.reduceAdd, Nat.reduceSub, reduceIte, Nat.lt_irrefl, Nat.zero_ne_one, Nat.one_ne_zero, Nat.zero_add, List.nil_append, List.cons_append, Option.toList_some, Option.toList_none, forall_const, false_implies, true_implies, false_or, or_false, true_or, or_true, i_le, i_lt, i_eq, i_eq0, i_lt0, i_0le, i_0lt, i_le0, i_in1, i_cl, nI_add, pk_mul, pk_sub, i_div, i_rem, i_sh1, i_bit, i_or, i_and, i_andn, nt_le, nf_le, nt_lt, nf_lt, nt_eq, nf_eq, not_true_eq_false, and_self, and_false, false_and, eq_self, Bool.toNat_true, Bool.toNat_false, i_bool, i_bool1, Bool.false_eq_true, Bool.true_eq_false, reduceCtorEq, i_neg1, i_neg2, i_neg3, i_neg4, i_neg5, i_neg6, i_neg7, i_neg8, i_neg9, i_nega, i_negb, i_negc, i_max2, i_min2, wi_nil]
        repeat (
          first
          | refine s_X8_spare_0 ?_
          | refine s_X8_spare_9 ?_
          | refine s_X8_spare_11 ?_
          | refine s_X8_spare_24 ?_
          | refine s_X8_spare_31 ?_
          | refine s_X8_spare_62 ?_
          | refine s_X8_spare_75 ?_
          | refine s_X8_spare_92 ?_
          | refine s_X8_spare_94 ?_
          | refine s_X8_spare_100 ?_
          | refine s_X8_spare_112 ?_
          simp (disch := omega) only [B_X8_spare_0, wi_iload_n, wi_if_lt, wi_iconst, wi_icmp_le, B_X8_spare_9, wi_ireturn, B_X8_spare_11, wi_aload_n, wi_getfield, fldv_7_3, fds_7_3, cnt_7, fldv_6_7, fds_6_7, cnt_6, wi_if_ne, wi_bipush, B_X8_spare_24, wi_invokevirtual, B_X8_spare_31, wi_istore_n, wi_istore, B_X8_spare_41, wi_iload, wi_icmp_ge, wi_ixor, wi_iand, wi_invokestatic, B_X8_spare_62, wi_icmp_ne, B_X8_spare_75, B_X8_spare_92, B_X8_spare_94, wi_iinc, wi_goto, B_X8_spare_100, wi_icmp_eq, wi_putfield, pOk_7_11, B_X8_spare_112, no0, no1, nz1, nz2, nz3, nz4, nz5, nz7, nz8, Classical.not_not, bz0, bz1, wi_nil, ld_0, ld_s, isIv_I, isLv_L, isRv_R, true_and, and_true, lset_0, lset_1, lset_s, avw_I, avw_L, avw_R, clr_cons, clr_nil, kst_0, kst_1, kstL_0, kstL_1, addk_I, pA_0, pA_s, pD_0, pD_s, wid_nil, wid_cons, rcv_c, putv_I, putv_L, List.length_cons, List.length_nil, List.set_cons_zero, List.set_cons_succ, not_false_eq_true, Nat.reduceMod, Nat.reduceDiv, Nat.reduceEqDiff, Nat.reduceLT, Nat.reduceLeDiff, Nat.reduceAdd, Nat.reduceSub, reduceIte, Nat.lt_irrefl, Nat.zero_ne_one, Nat.one_ne_zero, Nat.zero_add, List.nil_append, List.cons_append, Option.toList_some, Option.toList_none, forall_const, false_implies, true_implies, false_or, or_false, true_or, or_true, i_le, i_lt, i_eq, i_eq0, i_lt0, i_0le, i_0lt, i_le0, i_in1, i_cl, nI_add, pk_mul, pk_sub, i_div, i_rem, i_sh1, i_bit, i_or, i_and, i_andn, nt_le, nf_le, nt_lt, nf_lt, nt_eq, nf_eq, not_true_eq_false, and_self, and_false, false_and, eq_self, Bool.toNat_true, Bool.toNat_false, i_bool, i_bool1, Bool.false_eq_true, Bool.true_eq_false, reduceCtorEq, i_neg1, i_neg2, i_neg3, i_neg4, i_neg5, i_neg6, i_neg7, i_neg8, i_neg9, i_nega, i_negb, i_negc, i_max2, i_min2])
        refine c_lossOf (by decide) hy ho (by omega) ?_
        cases ho2 : sps Y n j with
        | none =>
          rw [ho2, if_pos rfl] at hnx
          try simp (disch := omega) only [no0, no1, nz1, nz2, nz3, nz4, nz5, nz7, nz8, Classical.not_not, bz0, bz1, wi_nil, ld_0, ld_s, isIv_I, isLv_L, isRv_R, true_and, and_true, lset_0, lset_1, lset_s, avw_I, avw_L, avw_R, clr_cons, clr_nil, kst_0, kst_1, kstL_0, kstL_1, addk_I, pA_0, pA_s, pD_0, pD_s, wid_nil, wid_cons, rcv_c, putv_I, putv_L, List.length_cons, List.length_nil, List.set_cons_zero, List.set_cons_succ, not_false_eq_true, Nat.reduceMod, Nat.reduceDiv, Nat.reduceEqDiff, Nat.reduceLT, Nat.reduceLeDiff, Nat.reduceAdd, Nat.reduceSub, reduceIte, Nat.lt_irrefl, Nat.zero_ne_one, Nat.one_ne_zero, Nat.zero_add, List.nil_append, List.cons_append, Option.toList_some, Option.toList_none, forall_const, false_implies, true_implies, false_or, or_false, true_or, or_true, i_le, i_lt, i_eq, i_eq0, i_lt0, i_0le, i_0lt, i_le0, i_in1, i_cl, nI_add, pk_mul, pk_sub, i_div, i_rem, i_sh1, i_bit, i_or, i_and, i_andn, nt_le, nf_le, nt_lt, nf_lt, nt_eq, nf_eq, not_true_eq_false, and_self, and_false, false_and, eq_self, Bool.toNat_true, Bool.toNat_false, i_bool, i_bool1, Bool.false_eq_true, Bool.true_eq_false, reduceCtorEq, i_neg1, i_neg2, i_neg3, i_neg4, i_neg5, i_neg6, i_neg7, i_neg8, i_neg9, i_nega, i_negb, i_negc, i_max2, i_min2, moI, wrI, wi_nil]
          repeat (
            first
            | refine s_X8_spare_0 ?_
            | refine s_X8_spare_9 ?_
            | refine s_X8_spare_11 ?_
            | refine s_X8_spare_24 ?_
            | refine s_X8_spare_31 ?_
            | refine s_X8_spare_62 ?_
            | refine s_X8_spare_75 ?_
            | refine s_X8_spare_92 ?_
            | refine s_X8_spare_94 ?_
            | refine s_X8_spare_100 ?_
            | refine s_X8_spare_112 ?_
            simp (disch := omega) only [B_X8_spare_0, wi_iload_n, wi_if_lt, wi_iconst, wi_icmp_le, B_X8_spare_9, wi_ireturn, B_X8_spare_11, wi_aload_n, wi_getfield, fldv_7_3, fds_7_3, cnt_7, fldv_6_7, fds_6_7, cnt_6, wi_if_ne, wi_bipush, B_X8_spare_24, wi_invokevirtual, B_X8_spare_31, wi_istore_n, wi_istore, B_X8_spare_41, wi_iload, wi_icmp_ge, wi_ixor, wi_iand, wi_invokestatic, B_X8_spare_62, wi_icmp_ne, B_X8_spare_75, B_X8_spare_92, B_X8_spare_94, wi_iinc, wi_goto, B_X8_spare_100, wi_icmp_eq, wi_putfield, pOk_7_11, B_X8_spare_112, no0, no1, nz1, nz2, nz3, nz4, nz5, nz7, nz8, Classical.not_not, bz0, bz1, wi_nil, ld_0, ld_s, isIv_I, isLv_L, isRv_R, true_and, and_true, lset_0, lset_1, lset_s, avw_I, avw_L, avw_R, clr_cons, clr_nil, kst_0, kst_1, kstL_0, kstL_1, addk_I, pA_0, pA_s, pD_0, pD_s, wid_nil, wid_cons, rcv_c, putv_I, putv_L, List.length_cons, List.length_nil, List.set_cons_zero, List.set_cons_succ, not_false_eq_true, Nat.reduceMod, Nat.reduceDiv, Nat.reduceEqDiff, Nat.reduceLT, Nat.reduceLeDiff, Nat.reduceAdd, Nat.reduceSub, reduceIte, Nat.lt_irrefl, Nat.zero_ne_one, Nat.one_ne_zero, Nat.zero_add, List.nil_append, List.cons_append, Option.toList_some, Option.toList_none, forall_const, false_implies, true_implies, false_or, or_false, true_or, or_true, i_le, i_lt, i_eq, i_eq0, i_lt0, i_0le, i_0lt, i_le0, i_in1, i_cl, nI_add, pk_mul, pk_sub, i_div, i_rem, i_sh1, i_bit, i_or, i_and, i_andn, nt_le, nf_le, nt_lt, nf_lt, nt_eq, nf_eq, not_true_eq_false, and_self, and_false, false_and, eq_self, Bool.toNat_true, Bool.toNat_false, i_bool, i_bool1, Bool.false_eq_true, Bool.true_eq_false, reduceCtorEq, i_neg1, i_neg2, i_neg3, i_neg4, i_neg5, i_neg6, i_neg7, i_neg8, i_neg9, i_nega, i_negb, i_negc, i_max2, i_min2, moI, wrI])
          refine c_lossOf (by decide) hy ho (by omega) ?_
          try simp (disch := omega) only [no0, no1, nz1, nz2, nz3, nz4, nz5, nz7, nz8, Classical.not_not, bz0, bz1, wi_nil, ld_0, ld_s, isIv_I, isLv_L, isRv_R, true_and, and_true, lset_0, lset_1, lset_s, avw_I, avw_L, avw_R, clr_cons, clr_nil, kst_0, kst_1, kstL_0, kstL_1, addk_I, pA_0, pA_s, pD_0, pD_s, wid_nil, wid_cons, rcv_c, putv_I, putv_L, List.length_cons, List.length_nil, List.set_cons_zero, List.set_cons_succ, not_false_eq_true, Nat.reduceMod, Nat.reduceDiv, Nat.reduceEqDiff, Nat.reduceLT, Nat.reduceLeDiff, Nat.reduceAdd, Nat.reduceSub, reduceIte, Nat.lt_irrefl, Nat.zero_ne_one, Nat.one_ne_zero, Nat.zero_add, List.nil_append, List.cons_append, Option.toList_some, Option.toList_none, forall_const, false_implies, true_implies, false_or, or_false, true_or, or_true, i_le, i_lt, i_eq, i_eq0, i_lt0, i_0le, i_0lt, i_le0, i_in1, i_cl, nI_add, pk_mul, pk_sub, i_div, i_rem, i_sh1, i_bit, i_or, i_and, i_andn, nt_le, nf_le, nt_lt, nf_lt, nt_eq, nf_eq, not_true_eq_false, and_self, and_false, false_and, eq_self, Bool.toNat_true, Bool.toNat_false, i_bool, i_bool1, Bool.false_eq_true, Bool.true_eq_false, reduceCtorEq, i_neg1, i_neg2, i_neg3, i_neg4, i_neg5, i_neg6, i_neg7, i_neg8, i_neg9, i_nega, i_negb, i_negc, i_max2, i_min2, wi_nil]
          repeat (
            first
            | refine s_X8_spare_0 ?_
            | refine s_X8_spare_9 ?_
            | refine s_X8_spare_11 ?_
            | refine s_X8_spare_24 ?_
            | refine s_X8_spare_31 ?_
            | refine s_X8_spare_62 ?_
            | refine s_X8_spare_75 ?_
            | refine s_X8_spare_92 ?_
            | refine s_X8_spare_94 ?_
            | refine s_X8_spare_100 ?_
            | refine s_X8_spare_112 ?_
            simp (disch := omega) only [B_X8_spare_0, wi_iload_n, wi_if_lt, wi_iconst, wi_icmp_le, B_X8_spare_9, wi_ireturn, B_X8_spare_11, wi_aload_n, wi_getfield, fldv_7_3, fds_7_3, cnt_7, fldv_6_7, fds_6_7, cnt_6, wi_if_ne, wi_bipush, B_X8_spare_24, wi_invokevirtual, B_X8_spare_31, wi_istore_n, wi_istore, B_X8_spare_41, wi_iload, wi_icmp_ge, wi_ixor, wi_iand, wi_invokestatic, B_X8_spare_62, wi_icmp_ne, B_X8_spare_75, B_X8_spare_92, B_X8_spare_94, wi_iinc, wi_goto, B_X8_spare_100, wi_icmp_eq, wi_putfield, pOk_7_11, B_X8_spare_112, no0, no1, nz1, nz2, nz3, nz4, nz5, nz7, nz8, Classical.not_not, bz0, bz1, wi_nil, ld_0, ld_s, isIv_I, isLv_L, isRv_R, true_and, and_true, lset_0, lset_1, lset_s, avw_I, avw_L, avw_R, clr_cons, clr_nil, kst_0, kst_1, kstL_0, kstL_1, addk_I, pA_0, pA_s, pD_0, pD_s, wid_nil, wid_cons, rcv_c, putv_I, putv_L, List.length_cons, List.length_nil, List.set_cons_zero, List.set_cons_succ, not_false_eq_true, Nat.reduceMod, Nat.reduceDiv, Nat.reduceEqDiff, Nat.reduceLT, Nat.reduceLeDiff, Nat.reduceAdd, Nat.reduceSub, reduceIte, Nat.lt_irrefl, Nat.zero_ne_one, Nat.one_ne_zero, Nat.zero_add, List.nil_append, List.cons_append, Option.toList_some, Option.toList_none, forall_const, false_implies, true_implies, false_or, or_false, true_or, or_true, i_le, i_lt, i_eq, i_eq0, i_lt0, i_0le, i_0lt, i_le0, i_in1, i_cl, nI_add, pk_mul, pk_sub, i_div, i_rem, i_sh1, i_bit, i_or, i_and, i_andn, nt_le, nf_le, nt_lt, nf_lt, nt_eq, nf_eq, not_true_eq_false, and_self, and_false, false_and, eq_self, Bool.toNat_true, Bool.toNat_false, i_bool, i_bool1, Bool.false_eq_true, Bool.true_eq_false, reduceCtorEq, i_neg1, i_neg2, i_neg3, i_neg4, i_neg5, i_neg6, i_neg7, i_neg8, i_neg9, i_nega, i_negb, i_negc, i_max2, i_min2])
          exact hnx
        | some b =>
          rw [ho2] at hnx
          have hyb := ylos_le ho b
          by_cases c3 : ylos Y b < ylos Y j
          · rw [if_pos (decide_eq_true c3)] at hnx
            try simp (disch := omega) only [no0, no1, nz1, nz2, nz3, nz4, nz5, nz7, nz8, Classical.not_not, bz0, bz1, wi_nil, ld_0, ld_s, isIv_I, isLv_L, isRv_R, true_and, and_true, lset_0, lset_1, lset_s, avw_I, avw_L, avw_R, clr_cons, clr_nil, kst_0, kst_1, kstL_0, kstL_1, addk_I, pA_0, pA_s, pD_0, pD_s, wid_nil, wid_cons, rcv_c, putv_I, putv_L, List.length_cons, List.length_nil, List.set_cons_zero, List.set_cons_succ, not_false_eq_true, Nat.reduceMod, Nat.reduceDiv, Nat.reduceEqDiff, Nat.reduceLT, Nat.reduceLeDiff, Nat.reduceAdd, Nat.reduceSub, reduceIte, Nat.lt_irrefl, Nat.zero_ne_one, Nat.one_ne_zero, Nat.zero_add, List.nil_append, List.cons_append, Option.toList_some, Option.toList_none, forall_const, false_implies, true_implies, false_or, or_false, true_or, or_true, i_le, i_lt, i_eq, i_eq0, i_lt0, i_0le, i_0lt, i_le0, i_in1, i_cl, nI_add, pk_mul, pk_sub, i_div, i_rem, i_sh1, i_bit, i_or, i_and, i_andn, nt_le, nf_le, nt_lt, nf_lt, nt_eq, nf_eq, not_true_eq_false, and_self, and_false, false_and, eq_self, Bool.toNat_true, Bool.toNat_false, i_bool, i_bool1, Bool.false_eq_true, Bool.true_eq_false, reduceCtorEq, i_neg1, i_neg2, i_neg3, i_neg4, i_neg5, i_neg6, i_neg7, i_neg8, i_neg9, i_nega, i_negb, i_negc, i_max2, i_min2, moI, wrI, wi_nil]
            repeat (
              first
              | refine s_X8_spare_0 ?_
              | refine s_X8_spare_9 ?_
              | refine s_X8_spare_11 ?_
              | refine s_X8_spare_24 ?_
              | refine s_X8_spare_31 ?_
              | refine s_X8_spare_62 ?_
              | refine s_X8_spare_75 ?_
              | refine s_X8_spare_92 ?_
              | refine s_X8_spare_94 ?_
              | refine s_X8_spare_100 ?_
              | refine s_X8_spare_112 ?_
              simp (disch := omega) only [B_X8_spare_0, wi_iload_n, wi_if_lt, wi_iconst, wi_icmp_le, B_X8_spare_9, wi_ireturn, B_X8_spare_11, wi_aload_n, wi_getfield, fldv_7_3, fds_7_3, cnt_7, fldv_6_7, fds_6_7, cnt_6, wi_if_ne, wi_bipush, B_X8_spare_24, wi_invokevirtual, B_X8_spare_31, wi_istore_n, wi_istore, B_X8_spare_41, wi_iload, wi_icmp_ge, wi_ixor, wi_iand, wi_invokestatic, B_X8_spare_62, wi_icmp_ne, B_X8_spare_75, B_X8_spare_92, B_X8_spare_94, wi_iinc, wi_goto, B_X8_spare_100, wi_icmp_eq, wi_putfield, pOk_7_11, B_X8_spare_112, no0, no1, nz1, nz2, nz3, nz4, nz5, nz7, nz8, Classical.not_not, bz0, bz1, wi_nil, ld_0, ld_s, isIv_I, isLv_L, isRv_R, true_and, and_true, lset_0, lset_1, lset_s, avw_I, avw_L, avw_R, clr_cons, clr_nil, kst_0, kst_1, kstL_0, kstL_1, addk_I, pA_0, pA_s, pD_0, pD_s, wid_nil, wid_cons, rcv_c, putv_I, putv_L, List.length_cons, List.length_nil, List.set_cons_zero, List.set_cons_succ, not_false_eq_true, Nat.reduceMod, Nat.reduceDiv, Nat.reduceEqDiff, Nat.reduceLT, Nat.reduceLeDiff, Nat.reduceAdd, Nat.reduceSub, reduceIte, Nat.lt_irrefl, Nat.zero_ne_one, Nat.one_ne_zero, Nat.zero_add, List.nil_append, List.cons_append, Option.toList_some, Option.toList_none, forall_const, false_implies, true_implies, false_or, or_false, true_or, or_true, i_le, i_lt, i_eq, i_eq0, i_lt0, i_0le, i_0lt, i_le0, i_in1, i_cl, nI_add, pk_mul, pk_sub, i_div, i_rem, i_sh1, i_bit, i_or, i_and, i_andn, nt_le, nf_le, nt_lt, nf_lt, nt_eq, nf_eq, not_true_eq_false, and_self, and_false, false_and, eq_self, Bool.toNat_true, Bool.toNat_false, i_bool, i_bool1, Bool.false_eq_true, Bool.true_eq_false, reduceCtorEq, i_neg1, i_neg2, i_neg3, i_neg4, i_neg5, i_neg6, i_neg7, i_neg8, i_neg9, i_nega, i_negb, i_negc, i_max2, i_min2, moI, wrI])
            refine c_lossOf (by decide) hy ho (by omega) ?_
            try simp (disch := omega) only [no0, no1, nz1, nz2, nz3, nz4, nz5, nz7, nz8, Classical.not_not, bz0, bz1, wi_nil, ld_0, ld_s, isIv_I, isLv_L, isRv_R, true_and, and_true, lset_0, lset_1, lset_s, avw_I, avw_L, avw_R, clr_cons, clr_nil, kst_0, kst_1, kstL_0, kstL_1, addk_I, pA_0, pA_s, pD_0, pD_s, wid_nil, wid_cons, rcv_c, putv_I, putv_L, List.length_cons, List.length_nil, List.set_cons_zero, List.set_cons_succ, not_false_eq_true, Nat.reduceMod, Nat.reduceDiv, Nat.reduceEqDiff, Nat.reduceLT, Nat.reduceLeDiff, Nat.reduceAdd, Nat.reduceSub, reduceIte, Nat.lt_irrefl, Nat.zero_ne_one, Nat.one_ne_zero, Nat.zero_add, List.nil_append, List.cons_append, Option.toList_some, Option.toList_none, forall_const, false_implies, true_implies, false_or, or_false, true_or, or_true, i_le, i_lt, i_eq, i_eq0, i_lt0, i_0le, i_0lt, i_le0, i_in1, i_cl, nI_add, pk_mul, pk_sub, i_div, i_rem, i_sh1, i_bit, i_or, i_and, i_andn, nt_le, nf_le, nt_lt, nf_lt, nt_eq, nf_eq, not_true_eq_false, and_self, and_false, false_and, eq_self, Bool.toNat_true, Bool.toNat_false, i_bool, i_bool1, Bool.false_eq_true, Bool.true_eq_false, reduceCtorEq, i_neg1, i_neg2, i_neg3, i_neg4, i_neg5, i_neg6, i_neg7, i_neg8, i_neg9, i_nega, i_negb, i_negc, i_max2, i_min2, wi_nil]
            repeat (
              first
              | refine s_X8_spare_0 ?_
              | refine s_X8_spare_9 ?_
              | refine s_X8_spare_11 ?_
              | refine s_X8_spare_24 ?_
              | refine s_X8_spare_31 ?_
              | refine s_X8_spare_62 ?_
              | refine s_X8_spare_75 ?_
              | refine s_X8_spare_92 ?_
              | refine s_X8_spare_94 ?_
              | refine s_X8_spare_100 ?_
              | refine s_X8_spare_112 ?_
              simp (disch := omega) only [B_X8_spare_0, wi_iload_n, wi_if_lt, wi_iconst, wi_icmp_le, B_X8_spare_9, wi_ireturn, B_X8_spare_11, wi_aload_n, wi_getfield, fldv_7_3, fds_7_3, cnt_7, fldv_6_7, fds_6_7, cnt_6, wi_if_ne, wi_bipush, B_X8_spare_24, wi_invokevirtual, B_X8_spare_31, wi_istore_n, wi_istore, B_X8_spare_41, wi_iload, wi_icmp_ge, wi_ixor, wi_iand, wi_invokestatic, B_X8_spare_62, wi_icmp_ne, B_X8_spare_75, B_X8_spare_92, B_X8_spare_94, wi_iinc, wi_goto, B_X8_spare_100, wi_icmp_eq, wi_putfield, pOk_7_11, B_X8_spare_112, no0, no1, nz1, nz2, nz3, nz4, nz5, nz7, nz8, Classical.not_not, bz0, bz1, wi_nil, ld_0, ld_s, isIv_I, isLv_L, isRv_R, true_and, and_true, lset_0, lset_1, lset_s, avw_I, avw_L, avw_R, clr_cons, clr_nil, kst_0, kst_1, kstL_0, kstL_1, addk_I, pA_0, pA_s, pD_0, pD_s, wid_nil, wid_cons, rcv_c, putv_I, putv_L, List.length_cons, List.length_nil, List.set_cons_zero, List.set_cons_succ, not_false_eq_true, Nat.reduceMod, Nat.reduceDiv, Nat.reduceEqDiff, Nat.reduceLT, Nat.reduceLeDiff, Nat.reduceAdd, Nat.reduceSub, reduceIte, Nat.lt_irrefl, Nat.zero_ne_one, Nat.one_ne_zero, Nat.zero_add, List.nil_append, List.cons_append, Option.toList_some, Option.toList_none, forall_const, false_implies, true_implies, false_or, or_false, true_or, or_true, i_le, i_lt, i_eq, i_eq0, i_lt0, i_0le, i_0lt, i_le0, i_in1, i_cl, nI_add, pk_mul, pk_sub, i_div, i_rem, i_sh1, i_bit, i_or, i_and, i_andn, nt_le, nf_le, nt_lt, nf_lt, nt_eq, nf_eq, not_true_eq_false, and_self, and_false, false_and, eq_self, Bool.toNat_true, Bool.toNat_false, i_bool, i_bool1, Bool.false_eq_true, Bool.true_eq_false, reduceCtorEq, i_neg1, i_neg2, i_neg3, i_neg4, i_neg5, i_neg6, i_neg7, i_neg8, i_neg9, i_nega, i_negb, i_negc, i_max2, i_min2])
            exact hnx
          · rw [if_neg (fun q => c3 (of_decide_eq_true q))] at hnx
            try simp (disch := omega) only [no0, no1, nz1, nz2, nz3, nz4, nz5, nz7, nz8, Classical.not_not, bz0, bz1, wi_nil, ld_0, ld_s, isIv_I, isLv_L, isRv_R, true_and, and_true, lset_0, lset_1, lset_s, avw_I, avw_L, avw_R, clr_cons, clr_nil, kst_0, kst_1, kstL_0, kstL_1, addk_I, pA_0, pA_s, pD_0, pD_s, wid_nil, wid_cons, rcv_c, putv_I, putv_L, List.length_cons, List.length_nil, List.set_cons_zero, List.set_cons_succ, not_false_eq_true, Nat.reduceMod, Nat.reduceDiv, Nat.reduceEqDiff, Nat.reduceLT, Nat.reduceLeDiff, Nat.reduceAdd, Nat.reduceSub, reduceIte, Nat.lt_irrefl, Nat.zero_ne_one, Nat.one_ne_zero, Nat.zero_add, List.nil_append, List.cons_append, Option.toList_some, Option.toList_none, forall_const, false_implies, true_implies, false_or, or_false, true_or, or_true, i_le, i_lt, i_eq, i_eq0, i_lt0, i_0le, i_0lt, i_le0, i_in1, i_cl, nI_add, pk_mul, pk_sub, i_div, i_rem, i_sh1, i_bit, i_or, i_and, i_andn, nt_le, nf_le, nt_lt, nf_lt, nt_eq, nf_eq, not_true_eq_false, and_self, and_false, false_and, eq_self, Bool.toNat_true, Bool.toNat_false, i_bool, i_bool1, Bool.false_eq_true, Bool.true_eq_false, reduceCtorEq, i_neg1, i_neg2, i_neg3, i_neg4, i_neg5, i_neg6, i_neg7, i_neg8, i_neg9, i_nega, i_negb, i_negc, i_max2, i_min2, moI, wrI, wi_nil]
            repeat (
              first
              | refine s_X8_spare_0 ?_
              | refine s_X8_spare_9 ?_
              | refine s_X8_spare_11 ?_
              | refine s_X8_spare_24 ?_
              | refine s_X8_spare_31 ?_
              | refine s_X8_spare_62 ?_
              | refine s_X8_spare_75 ?_
              | refine s_X8_spare_92 ?_
              | refine s_X8_spare_94 ?_
              | refine s_X8_spare_100 ?_
              | refine s_X8_spare_112 ?_
              simp (disch := omega) only [B_X8_spare_0, wi_iload_n, wi_if_lt, wi_iconst, wi_icmp_le, B_X8_spare_9, wi_ireturn, B_X8_spare_11, wi_aload_n, wi_getfield, fldv_7_3, fds_7_3, cnt_7, fldv_6_7, fds_6_7, cnt_6, wi_if_ne, wi_bipush, B_X8_spare_24, wi_invokevirtual, B_X8_spare_31, wi_istore_n, wi_istore, B_X8_spare_41, wi_iload, wi_icmp_ge, wi_ixor, wi_iand, wi_invokestatic, B_X8_spare_62, wi_icmp_ne, B_X8_spare_75, B_X8_spare_92, B_X8_spare_94, wi_iinc, wi_goto, B_X8_spare_100, wi_icmp_eq, wi_putfield, pOk_7_11, B_X8_spare_112, no0, no1, nz1, nz2, nz3, nz4, nz5, nz7, nz8, Classical.not_not, bz0, bz1, wi_nil, ld_0, ld_s, isIv_I, isLv_L, isRv_R, true_and, and_true, lset_0, lset_1, lset_s, avw_I, avw_L, avw_R, clr_cons, clr_nil, kst_0, kst_1, kstL_0, kstL_1, addk_I, pA_0, pA_s, pD_0, pD_s, wid_nil, wid_cons, rcv_c, putv_I, putv_L, List.length_cons, List.length_nil, List.set_cons_zero, List.set_cons_succ, not_false_eq_true, Nat.reduceMod, Nat.reduceDiv, Nat.reduceEqDiff, Nat.reduceLT, Nat.reduceLeDiff, Nat.reduceAdd, Nat.reduceSub, reduceIte, Nat.lt_irrefl, Nat.zero_ne_one, Nat.one_ne_zero, Nat.zero_add, List.nil_append, List.cons_append, Option.toList_some, Option.toList_none, forall_const, false_implies, true_implies, false_or, or_false, true_or, or_true, i_le, i_lt, i_eq, i_eq0, i_lt0, i_0le, i_0lt, i_le0, i_in1, i_cl, nI_add, pk_mul, pk_sub, i_div, i_rem, i_sh1, i_bit, i_or, i_and, i_andn, nt_le, nf_le, nt_lt, nf_lt, nt_eq, nf_eq, not_true_eq_false, and_self, and_false, false_and, eq_self, Bool.toNat_true, Bool.toNat_false, i_bool, i_bool1, Bool.false_eq_true, Bool.true_eq_false, reduceCtorEq, i_neg1, i_neg2, i_neg3, i_neg4, i_neg5, i_neg6, i_neg7, i_neg8, i_neg9, i_nega, i_negb, i_negc, i_max2, i_min2, moI, wrI])
            exact hnx
      · rw [if_neg (fun q => c2 (of_decide_eq_true (Bool.and_eq_true_iff.mp (Bool.and_eq_true_iff.mp q).2).1))] at hnx
        refine s_X8_spare_41 ?_
        simp (disch := omega) only [B_X8_spare_41, wi_iload, wi_bipush, wi_icmp_ge, wi_iload_n, wi_iconst, wi_ixor, wi_iand, wi_if_ne, wi_invokestatic, no0, no1, nz1, nz2, nz3, nz4, nz5, nz7, nz8, Classical.not_not, bz0, bz1, wi_nil, ld_0, ld_s, isIv_I, isLv_L, isRv_R, true_and, and_true, lset_0, lset_1, lset_s, avw_I, avw_L, avw_R, clr_cons, clr_nil, kst_0, kst_1, kstL_0, kstL_1, addk_I, pA_0, pA_s, pD_0, pD_s, wid_nil, wid_cons, rcv_c, putv_I, putv_L, List.length_cons, List.length_nil, List.set_cons_zero, List.set_cons_succ, not_false_eq_true, Nat.reduceMod, Nat.reduceDiv, Nat.reduceEqDiff, Nat.reduceLT, Nat.reduceLeDiff, Nat.reduceAdd, Nat.reduceSub, reduceIte, Nat.lt_irrefl, Nat.zero_ne_one, Nat.one_ne_zero, Nat.zero_add, List.nil_append, List.cons_append, Option.toList_some, Option.toList_none, forall_const, false_implies, true_implies, false_or, or_false, true_or, or_true, i_le, i_lt, i_eq, i_eq0, i_lt0, i_0le, i_0lt, i_le0, i_in1, i_cl, nI_add, pk_mul, pk_sub, i_div, i_rem, i_sh1, i_bit, i_or, i_and, i_andn, nt_le, nf_le, nt_lt, nf_lt, nt_eq, nf_eq, not_true_eq_false, and_self, and_false, false_and, eq_self, Bool.toNat_true, Bool.toNat_false, i_bool, i_bool1, Bool.false_eq_true, Bool.true_eq_false, reduceCtorEq, i_neg1, i_neg2, i_neg3, i_neg4, i_neg5, i_neg6, i_neg7, i_neg8, i_neg9, i_nega, i_negb, i_negc, i_max2, i_min2]
        refine c_bitCount (by omega) ?_
        try simp (disch := omega) only [no0, no1, nz1, nz2, nz3, nz4, nz5, nz7, nz8, Classical.not_not, bz0, bz1, wi_nil, ld_0, ld_s, isIv_I, isLv_L, isRv_R, true_and, and_true, lset_0, lset_1, lset_s, avw_I, avw_L, avw_R, clr_cons, clr_nil, kst_0, kst_1, kstL_0, kstL_1, addk_I, pA_0, pA_s, pD_0, pD_s, wid_nil, wid_cons, rcv_c, putv_I, putv_L, List.length_cons, List.length_nil, List.set_cons_zero, List.set_cons_succ, not_false_eq_true, Nat.reduceMod, Nat.reduceDiv, Nat.reduceEqDiff, Nat.reduceLT, Nat.reduceLeDiff, Nat.reduceAdd, Nat.reduceSub, reduceIte, Nat.lt_irrefl, Nat.zero_ne_one, Nat.one_ne_zero, Nat.zero_add, List.nil_append, List.cons_append, Option.toList_some, Option.toList_none, forall_const, false_implies, true_implies, false_or, or_false, true_or, or_true, i_le, i_lt, i_eq, i_eq0, i_lt0, i_0le, i_0lt, i_le0, i_in1, i_cl, nI_add, pk_mul, pk_sub, i_div, i_rem, i_sh1, i_bit, i_or, i_and, i_andn, nt_le, nf_le, nt_lt, nf_lt, nt_eq, nf_eq, not_true_eq_false, and_self, and_false, false_and, eq_self, Bool.toNat_true, Bool.toNat_false, i_bool, i_bool1, Bool.false_eq_true, Bool.true_eq_false, reduceCtorEq, i_neg1, i_neg2, i_neg3, i_neg4, i_neg5, i_neg6, i_neg7, i_neg8, i_neg9, i_nega, i_negb, i_negc, i_max2, i_min2, wi_nil]
        repeat (
          first
          | refine s_X8_spare_0 ?_
          | refine s_X8_spare_9 ?_
          | refine s_X8_spare_11 ?_
          | refine s_X8_spare_24 ?_
          | refine s_X8_spare_31 ?_
          | refine s_X8_spare_62 ?_
          | refine s_X8_spare_75 ?_
          | refine s_X8_spare_92 ?_
          | refine s_X8_spare_94 ?_
          | refine s_X8_spare_100 ?_
          | refine s_X8_spare_112 ?_
          simp (disch := omega) only [B_X8_spare_0, wi_iload_n, wi_if_lt, wi_iconst, wi_icmp_le, B_X8_spare_9, wi_ireturn, B_X8_spare_11, wi_aload_n, wi_getfield, fldv_7_3, fds_7_3, cnt_7, fldv_6_7, fds_6_7, cnt_6, wi_if_ne, wi_bipush, B_X8_spare_24, wi_invokevirtual, B_X8_spare_31, wi_istore_n, wi_istore, B_X8_spare_41, wi_iload, wi_icmp_ge, wi_ixor, wi_iand, wi_invokestatic, B_X8_spare_62, wi_icmp_ne, B_X8_spare_75, B_X8_spare_92, B_X8_spare_94, wi_iinc, wi_goto, B_X8_spare_100, wi_icmp_eq, wi_putfield, pOk_7_11, B_X8_spare_112, no0, no1, nz1, nz2, nz3, nz4, nz5, nz7, nz8, Classical.not_not, bz0, bz1, wi_nil, ld_0, ld_s, isIv_I, isLv_L, isRv_R, true_and, and_true, lset_0, lset_1, lset_s, avw_I, avw_L, avw_R, clr_cons, clr_nil, kst_0, kst_1, kstL_0, kstL_1, addk_I, pA_0, pA_s, pD_0, pD_s, wid_nil, wid_cons, rcv_c, putv_I, putv_L, List.length_cons, List.length_nil, List.set_cons_zero, List.set_cons_succ, not_false_eq_true, Nat.reduceMod, Nat.reduceDiv, Nat.reduceEqDiff, Nat.reduceLT, Nat.reduceLeDiff, Nat.reduceAdd, Nat.reduceSub, reduceIte, Nat.lt_irrefl, Nat.zero_ne_one, Nat.one_ne_zero, Nat.zero_add, List.nil_append, List.cons_append, Option.toList_some, Option.toList_none, forall_const, false_implies, true_implies, false_or, or_false, true_or, or_true, i_le, i_lt, i_eq, i_eq0, i_lt0, i_0le, i_0lt, i_le0, i_in1, i_cl, nI_add, pk_mul, pk_sub, i_div, i_rem, i_sh1, i_bit, i_or, i_and, i_andn, nt_le, nf_le, nt_lt, nf_lt, nt_eq, nf_eq, not_true_eq_false, and_self, and_false, false_and, eq_self, Bool.toNat_true, Bool.toNat_false, i_bool, i_bool1, Bool.false_eq_true, Bool.true_eq_false, reduceCtorEq, i_neg1, i_neg2, i_neg3, i_neg4, i_neg5, i_neg6, i_neg7, i_neg8, i_neg9, i_nega, i_negb, i_negc, i_max2, i_min2])
        exact hnx
    · rw [if_neg (fun q => c1 (of_decide_eq_true (Bool.and_eq_true_iff.mp q).1))] at hnx
      refine s_X8_spare_41 ?_
      simp (disch := omega) only [B_X8_spare_41, wi_iload, wi_bipush, wi_icmp_ge, wi_iload_n, wi_iconst, wi_ixor, wi_iand, wi_if_ne, wi_invokestatic, no0, no1, nz1, nz2, nz3, nz4, nz5, nz7, nz8, Classical.not_not, bz0, bz1, wi_nil, ld_0, ld_s, isIv_I, isLv_L, isRv_R, true_and, and_true, lset_0, lset_1, lset_s, avw_I, avw_L, avw_R, clr_cons, clr_nil, kst_0, kst_1, kstL_0, kstL_1, addk_I, pA_0, pA_s, pD_0, pD_s, wid_nil, wid_cons, rcv_c, putv_I, putv_L, List.length_cons, List.length_nil, List.set_cons_zero, List.set_cons_succ, not_false_eq_true, Nat.reduceMod, Nat.reduceDiv, Nat.reduceEqDiff, Nat.reduceLT, Nat.reduceLeDiff, Nat.reduceAdd, Nat.reduceSub, reduceIte, Nat.lt_irrefl, Nat.zero_ne_one, Nat.one_ne_zero, Nat.zero_add, List.nil_append, List.cons_append, Option.toList_some, Option.toList_none, forall_const, false_implies, true_implies, false_or, or_false, true_or, or_true, i_le, i_lt, i_eq, i_eq0, i_lt0, i_0le, i_0lt, i_le0, i_in1, i_cl, nI_add, pk_mul, pk_sub, i_div, i_rem, i_sh1, i_bit, i_or, i_and, i_andn, nt_le, nf_le, nt_lt, nf_lt, nt_eq, nf_eq, not_true_eq_false, and_self, and_false, false_and, eq_self, Bool.toNat_true, Bool.toNat_false, i_bool, i_bool1, Bool.false_eq_true, Bool.true_eq_false, reduceCtorEq, i_neg1, i_neg2, i_neg3, i_neg4, i_neg5, i_neg6, i_neg7, i_neg8, i_neg9, i_nega, i_negb, i_negc, i_max2, i_min2]
      try simp (disch := omega) only [no0, no1, nz1, nz2, nz3, nz4, nz5, nz7, nz8, Classical.not_not, bz0, bz1, wi_nil, ld_0, ld_s, isIv_I, isLv_L, isRv_R, true_and, and_true, lset_0, lset_1, lset_s, avw_I, avw_L, avw_R, clr_cons, clr_nil, kst_0, kst_1, kstL_0, kstL_1, addk_I, pA_0, pA_s, pD_0, pD_s, wid_nil, wid_cons, rcv_c, putv_I, putv_L, List.length_cons, List.length_nil, List.set_cons_zero, List.set_cons_succ, not_false_eq_true, Nat.reduceMod, Nat.reduceDiv, Nat.reduceEqDiff, Nat.reduceLT, Nat.reduceLeDiff, Nat.reduceAdd, Nat.reduceSub, reduceIte, Nat.lt_irrefl, Nat.zero_ne_one, Nat.one_ne_zero, Nat.zero_add, List.nil_append, List.cons_append, Option.toList_some, Option.toList_none, forall_const, false_implies, true_implies, false_or, or_false, true_or, or_true, i_le, i_lt, i_eq, i_eq0, i_lt0, i_0le, i_0lt, i_le0, i_in1, i_cl, nI_add, pk_mul, pk_sub, i_div, i_rem, i_sh1, i_bit, i_or, i_and, i_andn, nt_le, nf_le, nt_lt, nf_lt, nt_eq, nf_eq, not_true_eq_false, and_self, and_false, false_and, eq_self, Bool.toNat_true, Bool.toNat_false, i_bool, i_bool1, Bool.false_eq_true, Bool.true_eq_false, reduceCtorEq, i_neg1, i_neg2, i_neg3, i_neg4, i_neg5, i_neg6, i_neg7, i_neg8, i_neg9, i_nega, i_negb, i_negc, i_max2, i_min2, wi_nil]
      repeat (
        first
        | refine s_X8_spare_0 ?_
        | refine s_X8_spare_9 ?_
        | refine s_X8_spare_11 ?_
        | refine s_X8_spare_24 ?_
        | refine s_X8_spare_31 ?_
        | refine s_X8_spare_62 ?_
        | refine s_X8_spare_75 ?_
        | refine s_X8_spare_92 ?_
        | refine s_X8_spare_94 ?_
        | refine s_X8_spare_100 ?_
        | refine s_X8_spare_112 ?_
        simp (disch := omega) only [B_X8_spare_0, wi_iload_n, wi_if_lt, wi_iconst, wi_icmp_le, B_X8_spare_9, wi_ireturn, B_X8_spare_11, wi_aload_n, wi_getfield, fldv_7_3, fds_7_3, cnt_7, fldv_6_7, fds_6_7, cnt_6, wi_if_ne, wi_bipush, B_X8_spare_24, wi_invokevirtual, B_X8_spare_31, wi_istore_n, wi_istore, B_X8_spare_41, wi_iload, wi_icmp_ge, wi_ixor, wi_iand, wi_invokestatic, B_X8_spare_62, wi_icmp_ne, B_X8_spare_75, B_X8_spare_92, B_X8_spare_94, wi_iinc, wi_goto, B_X8_spare_100, wi_icmp_eq, wi_putfield, pOk_7_11, B_X8_spare_112, no0, no1, nz1, nz2, nz3, nz4, nz5, nz7, nz8, Classical.not_not, bz0, bz1, wi_nil, ld_0, ld_s, isIv_I, isLv_L, isRv_R, true_and, and_true, lset_0, lset_1, lset_s, avw_I, avw_L, avw_R, clr_cons, clr_nil, kst_0, kst_1, kstL_0, kstL_1, addk_I, pA_0, pA_s, pD_0, pD_s, wid_nil, wid_cons, rcv_c, putv_I, putv_L, List.length_cons, List.length_nil, List.set_cons_zero, List.set_cons_succ, not_false_eq_true, Nat.reduceMod, Nat.reduceDiv, Nat.reduceEqDiff, Nat.reduceLT, Nat.reduceLeDiff, Nat.reduceAdd, Nat.reduceSub, reduceIte, Nat.lt_irrefl, Nat.zero_ne_one, Nat.one_ne_zero, Nat.zero_add, List.nil_append, List.cons_append, Option.toList_some, Option.toList_none, forall_const, false_implies, true_implies, false_or, or_false, true_or, or_true, i_le, i_lt, i_eq, i_eq0, i_lt0, i_0le, i_0lt, i_le0, i_in1, i_cl, nI_add, pk_mul, pk_sub, i_div, i_rem, i_sh1, i_bit, i_or, i_and, i_andn, nt_le, nf_le, nt_lt, nf_lt, nt_eq, nf_eq, not_true_eq_false, and_self, and_false, false_and, eq_self, Bool.toNat_true, Bool.toNat_false, i_bool, i_bool1, Bool.false_eq_true, Bool.true_eq_false, reduceCtorEq, i_neg1, i_neg2, i_neg3, i_neg4, i_neg5, i_neg6, i_neg7, i_neg8, i_neg9, i_nega, i_negb, i_negc, i_max2, i_min2])
      exact hnx
theorem l_mspare {n : Nat} (hn : n ≤ 5) (hm : YrM S 40 Y) (ho : YOk 40 Y) (q : wpX (d + 9) mX9_spare 100 [aR 8 0, aU, aU, aI (wrI (sps Y n (2 ^ Y 6 0))), aU, aU] [] S P) : ∀ (m j : Nat), j + m = 2 ^ Y 6 0 → wpX (d + 9) mX9_spare 23 [aR 8 0, aI (nI n), aU, aI (wrI (sps Y n j)), aI (nI j), aU] [] S P := by
  have hn5 := ho.1.1
  have h32 := p2_lt hn5
  have hg := yg_lt ho
  intro m
  induction m with
  | zero =>
    intro j hj
    have e : j = 2 ^ Y 6 0 := by omega
    subst e
    refine s_X9_spare_23 ?_
    simp (disch := omega) only [B_X9_spare_23, wi_iload, wi_iconst, wi_aload_n, wi_getfield, fldv_8_10, fds_8_10, cnt_8, wi_ishl, wi_icmp_ge, wi_invokestatic, no0, no1, nz1, nz2, nz3, nz4, nz5, nz7, nz8, Classical.not_not, bz0, bz1, wi_nil, ld_0, ld_s, isIv_I, isLv_L, isRv_R, true_and, and_true, lset_0, lset_1, lset_s, avw_I, avw_L, avw_R, clr_cons, clr_nil, kst_0, kst_1, kstL_0, kstL_1, addk_I, pA_0, pA_s, pD_0, pD_s, wid_nil, wid_cons, rcv_c, putv_I, putv_L, List.length_cons, List.length_nil, List.set_cons_zero, List.set_cons_succ, not_false_eq_true, Nat.reduceMod, Nat.reduceDiv, Nat.reduceEqDiff, Nat.reduceLT, Nat.reduceLeDiff, Nat.reduceAdd, Nat.reduceSub, reduceIte, Nat.lt_irrefl, Nat.zero_ne_one, Nat.one_ne_zero, Nat.zero_add, List.nil_append, List.cons_append, Option.toList_some, Option.toList_none, forall_const, false_implies, true_implies, false_or, or_false, true_or, or_true, i_le, i_lt, i_eq, i_eq0, i_lt0, i_0le, i_0lt, i_le0, i_in1, i_cl, nI_add, pk_mul, pk_sub, i_div, i_rem, i_sh1, i_bit, i_or, i_and, i_andn, nt_le, nf_le, nt_lt, nf_lt, nt_eq, nf_eq, not_true_eq_false, and_self, and_false, false_and, eq_self, Bool.toNat_true, Bool.toNat_false, i_bool, i_bool1, Bool.false_eq_true, Bool.true_eq_false, reduceCtorEq, i_neg1, i_neg2, i_neg3, i_neg4, i_neg5, i_neg6, i_neg7, i_neg8, i_neg9, i_nega, i_negb, i_negc, i_max2, i_min2, (m_n hm)]
    exact q
  | succ m ih =>
    intro j hj
    have a1 : j &&& Y 6 4 < 32 := and_lt32 (by omega)
    have hbj := bct_lt (s := j) (by omega)
    have hyj := ylos_le ho j
    have hsb := subB_iff ho (s := j) (by omega)
    have hnx := ih (j + 1) (by omega)
    rw [sps] at hnx
    unfold spo at hnx
    have bad : ¬ (subB Y j = true ∧ bct j = n) → wpX (d + 9) mX9_spare 60 [aR 8 0, aI (nI n), aU, aI (wrI (sps Y n j)), aI (nI j), aU] [aI (nI 0)] S P := by
      intro hb
      rw [if_neg (fun q => hb ⟨(Bool.and_eq_true_iff.mp q).1, of_decide_eq_true (Bool.and_eq_true_iff.mp (Bool.and_eq_true_iff.mp q).2).1⟩)] at hnx
      try simp (disch := omega) only [no0, no1, nz1, nz2, nz3, nz4, nz5, nz7, nz8, Classical.not_not, bz0, bz1, wi_nil, ld_0, ld_s, isIv_I, isLv_L, isRv_R, true_and, and_true, lset_0, lset_1, lset_s, avw_I, avw_L, avw_R, clr_cons, clr_nil, kst_0, kst_1, kstL_0, kstL_1, addk_I, pA_0, pA_s, pD_0, pD_s, wid_nil, wid_cons, rcv_c, putv_I, putv_L, List.length_cons, List.length_nil, List.set_cons_zero, List.set_cons_succ, not_false_eq_true, Nat.reduceMod, Nat.reduceDiv, Nat.reduceEqDiff, Nat.reduceLT, Nat.reduceLeDiff, Nat.reduceAdd, Nat.reduceSub, reduceIte, Nat.lt_irrefl, Nat.zero_ne_one, Nat.one_ne_zero, Nat.zero_add, List.nil_append, List.cons_append, Option.toList_some, Option.toList_none, forall_const, false_implies, true_implies, false_or, or_false, true_or, or_true, i_le, i_lt, i_eq, i_eq0, i_lt0, i_0le, i_0lt, i_le0, i_in1, i_cl, nI_add, pk_mul, pk_sub, i_div, i_rem, i_sh1, i_bit, i_or, i_and, i_andn, nt_le, nf_le, nt_lt, nf_lt, nt_eq, nf_eq, not_true_eq_false, and_self, and_false, false_and, eq_self, Bool.toNat_true, Bool.toNat_false, i_bool, i_bool1, Bool.false_eq_true, Bool.true_eq_false, reduceCtorEq, i_neg1, i_neg2, i_neg3, i_neg4, i_neg5, i_neg6, i_neg7, i_neg8, i_neg9, i_nega, i_negb, i_negc, i_max2, i_min2, wi_nil]
      repeat (
        first
        | refine s_X9_spare_0 ?_
        | refine s_X9_spare_7 ?_
        | refine s_X9_spare_10 ?_
        | refine s_X9_spare_17 ?_
        | refine s_X9_spare_39 ?_
        | refine s_X9_spare_59 ?_
        | refine s_X9_spare_60 ?_
        | refine s_X9_spare_79 ?_
        | refine s_X9_spare_84 ?_
        | refine s_X9_spare_87 ?_
        | refine s_X9_spare_92 ?_
        | refine s_X9_spare_93 ?_
        | refine s_X9_spare_100 ?_
        | refine s_X9_spare_111 ?_
        | refine s_X9_spare_117 ?_
        | refine s_X9_spare_121 ?_
        simp (disch := omega) only [B_X9_spare_0, wi_aload_n, wi_iload_n, wi_iconst, wi_invokestatic, B_X9_spare_7, wi_invokevirtual, cnt_8, B_X9_spare_10, wi_istore_n, wi_if_ge, wi_ireturn, B_X9_spare_17, wi_bipush, wi_istore, B_X9_spare_23, wi_iload, wi_getfield, fldv_8_10, fds_8_10, wi_ishl, wi_icmp_ge, B_X9_spare_39, wi_icmp_ne, fldv_8_20, fds_8_20, wi_iaload, wi_iand, wi_if_ne, wi_goto, cnt_40, aTy_40, aLn_40, arr_40, B_X9_spare_59, B_X9_spare_60, wi_if_eq, wi_icmp_eq, B_X9_spare_79, B_X9_spare_84, wi_icmp_le, B_X9_spare_87, B_X9_spare_92, B_X9_spare_93, wi_iinc, B_X9_spare_100, B_X9_spare_111, B_X9_spare_117, B_X9_spare_121, no0, no1, nz1, nz2, nz3, nz4, nz5, nz7, nz8, Classical.not_not, bz0, bz1, wi_nil, ld_0, ld_s, isIv_I, isLv_L, isRv_R, true_and, and_true, lset_0, lset_1, lset_s, avw_I, avw_L, avw_R, clr_cons, clr_nil, kst_0, kst_1, kstL_0, kstL_1, addk_I, pA_0, pA_s, pD_0, pD_s, wid_nil, wid_cons, rcv_c, putv_I, putv_L, List.length_cons, List.length_nil, List.set_cons_zero, List.set_cons_succ, not_false_eq_true, Nat.reduceMod, Nat.reduceDiv, Nat.reduceEqDiff, Nat.reduceLT, Nat.reduceLeDiff, Nat.reduceAdd, Nat.reduceSub, reduceIte, Nat.lt_irrefl, Nat.zero_ne_one, Nat.one_ne_zero, Nat.zero_add, List.nil_append, List.cons_append, Option.toList_some, Option.toList_none, forall_const, false_implies, true_implies, false_or, or_false, true_or, or_true, i_le, i_lt, i_eq, i_eq0, i_lt0, i_0le, i_0lt, i_le0, i_in1, i_cl, nI_add, pk_mul, pk_sub, i_div, i_rem, i_sh1, i_bit, i_or, i_and, i_andn, nt_le, nf_le, nt_lt, nf_lt, nt_eq, nf_eq, not_true_eq_false, and_self, and_false, false_and, eq_self, Bool.toNat_true, Bool.toNat_false, i_bool, i_bool1, Bool.false_eq_true, Bool.true_eq_false, reduceCtorEq, i_neg1, i_neg2, i_neg3, i_neg4, i_neg5, i_neg6, i_neg7, i_neg8, i_neg9, i_nega, i_negb, i_negc, i_max2, i_min2])
      exact hnx
    refine s_X9_spare_23 ?_
    simp (disch := omega) only [B_X9_spare_23, wi_iload, wi_iconst, wi_aload_n, wi_getfield, fldv_8_10, fds_8_10, cnt_8, wi_ishl, wi_icmp_ge, wi_invokestatic, no0, no1, nz1, nz2, nz3, nz4, nz5, nz7, nz8, Classical.not_not, bz0, bz1, wi_nil, ld_0, ld_s, isIv_I, isLv_L, isRv_R, true_and, and_true, lset_0, lset_1, lset_s, avw_I, avw_L, avw_R, clr_cons, clr_nil, kst_0, kst_1, kstL_0, kstL_1, addk_I, pA_0, pA_s, pD_0, pD_s, wid_nil, wid_cons, rcv_c, putv_I, putv_L, List.length_cons, List.length_nil, List.set_cons_zero, List.set_cons_succ, not_false_eq_true, Nat.reduceMod, Nat.reduceDiv, Nat.reduceEqDiff, Nat.reduceLT, Nat.reduceLeDiff, Nat.reduceAdd, Nat.reduceSub, reduceIte, Nat.lt_irrefl, Nat.zero_ne_one, Nat.one_ne_zero, Nat.zero_add, List.nil_append, List.cons_append, Option.toList_some, Option.toList_none, forall_const, false_implies, true_implies, false_or, or_false, true_or, or_true, i_le, i_lt, i_eq, i_eq0, i_lt0, i_0le, i_0lt, i_le0, i_in1, i_cl, nI_add, pk_mul, pk_sub, i_div, i_rem, i_sh1, i_bit, i_or, i_and, i_andn, nt_le, nf_le, nt_lt, nf_lt, nt_eq, nf_eq, not_true_eq_false, and_self, and_false, false_and, eq_self, Bool.toNat_true, Bool.toNat_false, i_bool, i_bool1, Bool.false_eq_true, Bool.true_eq_false, reduceCtorEq, i_neg1, i_neg2, i_neg3, i_neg4, i_neg5, i_neg6, i_neg7, i_neg8, i_neg9, i_nega, i_negb, i_negc, i_max2, i_min2, (m_n hm)]
    refine c_bits (by omega) ?_
    by_cases c2 : bct j = n
    · by_cases c1 : j &&& Y 6 4 = 0
      · have hsj : subB Y j = true := hsb.mpr ⟨by omega, c1⟩
        rw [hsj, decide_eq_true c2, Bool.true_and, Bool.true_and] at hnx
        cases ho2 : sps Y n j with
        | none =>
          rw [ho2, if_pos rfl] at hnx
          try simp (disch := omega) only [no0, no1, nz1, nz2, nz3, nz4, nz5, nz7, nz8, Classical.not_not, bz0, bz1, wi_nil, ld_0, ld_s, isIv_I, isLv_L, isRv_R, true_and, and_true, lset_0, lset_1, lset_s, avw_I, avw_L, avw_R, clr_cons, clr_nil, kst_0, kst_1, kstL_0, kstL_1, addk_I, pA_0, pA_s, pD_0, pD_s, wid_nil, wid_cons, rcv_c, putv_I, putv_L, List.length_cons, List.length_nil, List.set_cons_zero, List.set_cons_succ, not_false_eq_true, Nat.reduceMod, Nat.reduceDiv, Nat.reduceEqDiff, Nat.reduceLT, Nat.reduceLeDiff, Nat.reduceAdd, Nat.reduceSub, reduceIte, Nat.lt_irrefl, Nat.zero_ne_one, Nat.one_ne_zero, Nat.zero_add, List.nil_append, List.cons_append, Option.toList_some, Option.toList_none, forall_const, false_implies, true_implies, false_or, or_false, true_or, or_true, i_le, i_lt, i_eq, i_eq0, i_lt0, i_0le, i_0lt, i_le0, i_in1, i_cl, nI_add, pk_mul, pk_sub, i_div, i_rem, i_sh1, i_bit, i_or, i_and, i_andn, nt_le, nf_le, nt_lt, nf_lt, nt_eq, nf_eq, not_true_eq_false, and_self, and_false, false_and, eq_self, Bool.toNat_true, Bool.toNat_false, i_bool, i_bool1, Bool.false_eq_true, Bool.true_eq_false, reduceCtorEq, i_neg1, i_neg2, i_neg3, i_neg4, i_neg5, i_neg6, i_neg7, i_neg8, i_neg9, i_nega, i_negb, i_negc, i_max2, i_min2, (m_gone hm), wrI, wi_nil]
          repeat (
            first
            | refine s_X9_spare_0 ?_
            | refine s_X9_spare_7 ?_
            | refine s_X9_spare_10 ?_
            | refine s_X9_spare_17 ?_
            | refine s_X9_spare_39 ?_
            | refine s_X9_spare_59 ?_
            | refine s_X9_spare_60 ?_
            | refine s_X9_spare_79 ?_
            | refine s_X9_spare_84 ?_
            | refine s_X9_spare_87 ?_
            | refine s_X9_spare_92 ?_
            | refine s_X9_spare_93 ?_
            | refine s_X9_spare_100 ?_
            | refine s_X9_spare_111 ?_
            | refine s_X9_spare_117 ?_
            | refine s_X9_spare_121 ?_
            simp (disch := omega) only [B_X9_spare_0, wi_aload_n, wi_iload_n, wi_iconst, wi_invokestatic, B_X9_spare_7, wi_invokevirtual, cnt_8, B_X9_spare_10, wi_istore_n, wi_if_ge, wi_ireturn, B_X9_spare_17, wi_bipush, wi_istore, B_X9_spare_23, wi_iload, wi_getfield, fldv_8_10, fds_8_10, wi_ishl, wi_icmp_ge, B_X9_spare_39, wi_icmp_ne, fldv_8_20, fds_8_20, wi_iaload, wi_iand, wi_if_ne, wi_goto, cnt_40, aTy_40, aLn_40, arr_40, B_X9_spare_59, B_X9_spare_60, wi_if_eq, wi_icmp_eq, B_X9_spare_79, B_X9_spare_84, wi_icmp_le, B_X9_spare_87, B_X9_spare_92, B_X9_spare_93, wi_iinc, B_X9_spare_100, B_X9_spare_111, B_X9_spare_117, B_X9_spare_121, no0, no1, nz1, nz2, nz3, nz4, nz5, nz7, nz8, Classical.not_not, bz0, bz1, wi_nil, ld_0, ld_s, isIv_I, isLv_L, isRv_R, true_and, and_true, lset_0, lset_1, lset_s, avw_I, avw_L, avw_R, clr_cons, clr_nil, kst_0, kst_1, kstL_0, kstL_1, addk_I, pA_0, pA_s, pD_0, pD_s, wid_nil, wid_cons, rcv_c, putv_I, putv_L, List.length_cons, List.length_nil, List.set_cons_zero, List.set_cons_succ, not_false_eq_true, Nat.reduceMod, Nat.reduceDiv, Nat.reduceEqDiff, Nat.reduceLT, Nat.reduceLeDiff, Nat.reduceAdd, Nat.reduceSub, reduceIte, Nat.lt_irrefl, Nat.zero_ne_one, Nat.one_ne_zero, Nat.zero_add, List.nil_append, List.cons_append, Option.toList_some, Option.toList_none, forall_const, false_implies, true_implies, false_or, or_false, true_or, or_true, i_le, i_lt, i_eq, i_eq0, i_lt0, i_0le, i_0lt, i_le0, i_in1, i_cl, nI_add, pk_mul, pk_sub, i_div, i_rem, i_sh1, i_bit, i_or, i_and, i_andn, nt_le, nf_le, nt_lt, nf_lt, nt_eq, nf_eq, not_true_eq_false, and_self, and_false, false_and, eq_self, Bool.toNat_true, Bool.toNat_false, i_bool, i_bool1, Bool.false_eq_true, Bool.true_eq_false, reduceCtorEq, i_neg1, i_neg2, i_neg3, i_neg4, i_neg5, i_neg6, i_neg7, i_neg8, i_neg9, i_nega, i_negb, i_negc, i_max2, i_min2, (m_gone hm), wrI])
          exact hnx
        | some b =>
          have hbj2 := sps_lt ho2
          rw [ho2] at hnx
          have hyb := ylos_le ho b
          try simp (disch := omega) only [no0, no1, nz1, nz2, nz3, nz4, nz5, nz7, nz8, Classical.not_not, bz0, bz1, wi_nil, ld_0, ld_s, isIv_I, isLv_L, isRv_R, true_and, and_true, lset_0, lset_1, lset_s, avw_I, avw_L, avw_R, clr_cons, clr_nil, kst_0, kst_1, kstL_0, kstL_1, addk_I, pA_0, pA_s, pD_0, pD_s, wid_nil, wid_cons, rcv_c, putv_I, putv_L, List.length_cons, List.length_nil, List.set_cons_zero, List.set_cons_succ, not_false_eq_true, Nat.reduceMod, Nat.reduceDiv, Nat.reduceEqDiff, Nat.reduceLT, Nat.reduceLeDiff, Nat.reduceAdd, Nat.reduceSub, reduceIte, Nat.lt_irrefl, Nat.zero_ne_one, Nat.one_ne_zero, Nat.zero_add, List.nil_append, List.cons_append, Option.toList_some, Option.toList_none, forall_const, false_implies, true_implies, false_or, or_false, true_or, or_true, i_le, i_lt, i_eq, i_eq0, i_lt0, i_0le, i_0lt, i_le0, i_in1, i_cl, nI_add, pk_mul, pk_sub, i_div, i_rem, i_sh1, i_bit, i_or, i_and, i_andn, nt_le, nf_le, nt_lt, nf_lt, nt_eq, nf_eq, not_true_eq_false, and_self, and_false, false_and, eq_self, Bool.toNat_true, Bool.toNat_false, i_bool, i_bool1, Bool.false_eq_true, Bool.true_eq_false, reduceCtorEq, i_neg1, i_neg2, i_neg3, i_neg4, i_neg5, i_neg6, i_neg7, i_neg8, i_neg9, i_nega, i_negb, i_negc, i_max2, i_min2, (m_gone hm), wrI, wi_nil]
          repeat (
            first
            | refine s_X9_spare_0 ?_
            | refine s_X9_spare_7 ?_
            | refine s_X9_spare_10 ?_
            | refine s_X9_spare_17 ?_
            | refine s_X9_spare_39 ?_
            | refine s_X9_spare_59 ?_
            | refine s_X9_spare_60 ?_
            | refine s_X9_spare_79 ?_
            | refine s_X9_spare_84 ?_
            | refine s_X9_spare_87 ?_
            | refine s_X9_spare_92 ?_
            | refine s_X9_spare_93 ?_
            | refine s_X9_spare_100 ?_
            | refine s_X9_spare_111 ?_
            | refine s_X9_spare_117 ?_
            | refine s_X9_spare_121 ?_
            simp (disch := omega) only [B_X9_spare_0, wi_aload_n, wi_iload_n, wi_iconst, wi_invokestatic, B_X9_spare_7, wi_invokevirtual, cnt_8, B_X9_spare_10, wi_istore_n, wi_if_ge, wi_ireturn, B_X9_spare_17, wi_bipush, wi_istore, B_X9_spare_23, wi_iload, wi_getfield, fldv_8_10, fds_8_10, wi_ishl, wi_icmp_ge, B_X9_spare_39, wi_icmp_ne, fldv_8_20, fds_8_20, wi_iaload, wi_iand, wi_if_ne, wi_goto, cnt_40, aTy_40, aLn_40, arr_40, B_X9_spare_59, B_X9_spare_60, wi_if_eq, wi_icmp_eq, B_X9_spare_79, B_X9_spare_84, wi_icmp_le, B_X9_spare_87, B_X9_spare_92, B_X9_spare_93, wi_iinc, B_X9_spare_100, B_X9_spare_111, B_X9_spare_117, B_X9_spare_121, no0, no1, nz1, nz2, nz3, nz4, nz5, nz7, nz8, Classical.not_not, bz0, bz1, wi_nil, ld_0, ld_s, isIv_I, isLv_L, isRv_R, true_and, and_true, lset_0, lset_1, lset_s, avw_I, avw_L, avw_R, clr_cons, clr_nil, kst_0, kst_1, kstL_0, kstL_1, addk_I, pA_0, pA_s, pD_0, pD_s, wid_nil, wid_cons, rcv_c, putv_I, putv_L, List.length_cons, List.length_nil, List.set_cons_zero, List.set_cons_succ, not_false_eq_true, Nat.reduceMod, Nat.reduceDiv, Nat.reduceEqDiff, Nat.reduceLT, Nat.reduceLeDiff, Nat.reduceAdd, Nat.reduceSub, reduceIte, Nat.lt_irrefl, Nat.zero_ne_one, Nat.one_ne_zero, Nat.zero_add, List.nil_append, List.cons_append, Option.toList_some, Option.toList_none, forall_const, false_implies, true_implies, false_or, or_false, true_or, or_true, i_le, i_lt, i_eq, i_eq0, i_lt0, i_0le, i_0lt, i_le0, i_in1, i_cl, nI_add, pk_mul, pk_sub, i_div, i_rem, i_sh1, i_bit, i_or, i_and, i_andn, nt_le, nf_le, nt_lt, nf_lt, nt_eq, nf_eq, not_true_eq_false, and_self, and_false, false_and, eq_self, Bool.toNat_true, Bool.toNat_false, i_bool, i_bool1, Bool.false_eq_true, Bool.true_eq_false, reduceCtorEq, i_neg1, i_neg2, i_neg3, i_neg4, i_neg5, i_neg6, i_neg7, i_neg8, i_neg9, i_nega, i_negb, i_negc, i_max2, i_min2, (m_gone hm), wrI])
          refine c_savedBy hm ho (by omega) ?_
          try simp (disch := omega) only [no0, no1, nz1, nz2, nz3, nz4, nz5, nz7, nz8, Classical.not_not, bz0, bz1, wi_nil, ld_0, ld_s, isIv_I, isLv_L, isRv_R, true_and, and_true, lset_0, lset_1, lset_s, avw_I, avw_L, avw_R, clr_cons, clr_nil, kst_0, kst_1, kstL_0, kstL_1, addk_I, pA_0, pA_s, pD_0, pD_s, wid_nil, wid_cons, rcv_c, putv_I, putv_L, List.length_cons, List.length_nil, List.set_cons_zero, List.set_cons_succ, not_false_eq_true, Nat.reduceMod, Nat.reduceDiv, Nat.reduceEqDiff, Nat.reduceLT, Nat.reduceLeDiff, Nat.reduceAdd, Nat.reduceSub, reduceIte, Nat.lt_irrefl, Nat.zero_ne_one, Nat.one_ne_zero, Nat.zero_add, List.nil_append, List.cons_append, Option.toList_some, Option.toList_none, forall_const, false_implies, true_implies, false_or, or_false, true_or, or_true, i_le, i_lt, i_eq, i_eq0, i_lt0, i_0le, i_0lt, i_le0, i_in1, i_cl, nI_add, pk_mul, pk_sub, i_div, i_rem, i_sh1, i_bit, i_or, i_and, i_andn, nt_le, nf_le, nt_lt, nf_lt, nt_eq, nf_eq, not_true_eq_false, and_self, and_false, false_and, eq_self, Bool.toNat_true, Bool.toNat_false, i_bool, i_bool1, Bool.false_eq_true, Bool.true_eq_false, reduceCtorEq, i_neg1, i_neg2, i_neg3, i_neg4, i_neg5, i_neg6, i_neg7, i_neg8, i_neg9, i_nega, i_negb, i_negc, i_max2, i_min2, wi_nil]
          repeat (
            first
            | refine s_X9_spare_0 ?_
            | refine s_X9_spare_7 ?_
            | refine s_X9_spare_10 ?_
            | refine s_X9_spare_17 ?_
            | refine s_X9_spare_39 ?_
            | refine s_X9_spare_59 ?_
            | refine s_X9_spare_60 ?_
            | refine s_X9_spare_79 ?_
            | refine s_X9_spare_84 ?_
            | refine s_X9_spare_87 ?_
            | refine s_X9_spare_92 ?_
            | refine s_X9_spare_93 ?_
            | refine s_X9_spare_100 ?_
            | refine s_X9_spare_111 ?_
            | refine s_X9_spare_117 ?_
            | refine s_X9_spare_121 ?_
            simp (disch := omega) only [B_X9_spare_0, wi_aload_n, wi_iload_n, wi_iconst, wi_invokestatic, B_X9_spare_7, wi_invokevirtual, cnt_8, B_X9_spare_10, wi_istore_n, wi_if_ge, wi_ireturn, B_X9_spare_17, wi_bipush, wi_istore, B_X9_spare_23, wi_iload, wi_getfield, fldv_8_10, fds_8_10, wi_ishl, wi_icmp_ge, B_X9_spare_39, wi_icmp_ne, fldv_8_20, fds_8_20, wi_iaload, wi_iand, wi_if_ne, wi_goto, cnt_40, aTy_40, aLn_40, arr_40, B_X9_spare_59, B_X9_spare_60, wi_if_eq, wi_icmp_eq, B_X9_spare_79, B_X9_spare_84, wi_icmp_le, B_X9_spare_87, B_X9_spare_92, B_X9_spare_93, wi_iinc, B_X9_spare_100, B_X9_spare_111, B_X9_spare_117, B_X9_spare_121, no0, no1, nz1, nz2, nz3, nz4, nz5, nz7, nz8, Classical.not_not, bz0, bz1, wi_nil, ld_0, ld_s, isIv_I, isLv_L, isRv_R, true_and, and_true, lset_0, lset_1, lset_s, avw_I, avw_L, avw_R, clr_cons, clr_nil, kst_0, kst_1, kstL_0, kstL_1, addk_I, pA_0, pA_s, pD_0, pD_s, wid_nil, wid_cons, rcv_c, putv_I, putv_L, List.length_cons, List.length_nil, List.set_cons_zero, List.set_cons_succ, not_false_eq_true, Nat.reduceMod, Nat.reduceDiv, Nat.reduceEqDiff, Nat.reduceLT, Nat.reduceLeDiff, Nat.reduceAdd, Nat.reduceSub, reduceIte, Nat.lt_irrefl, Nat.zero_ne_one, Nat.one_ne_zero, Nat.zero_add, List.nil_append, List.cons_append, Option.toList_some, Option.toList_none, forall_const, false_implies, true_implies, false_or, or_false, true_or, or_true, i_le, i_lt, i_eq, i_eq0, i_lt0, i_0le, i_0lt, i_le0, i_in1, i_cl, nI_add, pk_mul, pk_sub, i_div, i_rem, i_sh1, i_bit, i_or, i_and, i_andn, nt_le, nf_le, nt_lt, nf_lt, nt_eq, nf_eq, not_true_eq_false, and_self, and_false, false_and, eq_self, Bool.toNat_true, Bool.toNat_false, i_bool, i_bool1, Bool.false_eq_true, Bool.true_eq_false, reduceCtorEq, i_neg1, i_neg2, i_neg3, i_neg4, i_neg5, i_neg6, i_neg7, i_neg8, i_neg9, i_nega, i_negb, i_negc, i_max2, i_min2])
          refine c_savedBy hm ho (by omega) ?_
          by_cases c3 : ylos Y b < ylos Y j
          · rw [if_pos (decide_eq_true c3)] at hnx
            try simp (disch := omega) only [no0, no1, nz1, nz2, nz3, nz4, nz5, nz7, nz8, Classical.not_not, bz0, bz1, wi_nil, ld_0, ld_s, isIv_I, isLv_L, isRv_R, true_and, and_true, lset_0, lset_1, lset_s, avw_I, avw_L, avw_R, clr_cons, clr_nil, kst_0, kst_1, kstL_0, kstL_1, addk_I, pA_0, pA_s, pD_0, pD_s, wid_nil, wid_cons, rcv_c, putv_I, putv_L, List.length_cons, List.length_nil, List.set_cons_zero, List.set_cons_succ, not_false_eq_true, Nat.reduceMod, Nat.reduceDiv, Nat.reduceEqDiff, Nat.reduceLT, Nat.reduceLeDiff, Nat.reduceAdd, Nat.reduceSub, reduceIte, Nat.lt_irrefl, Nat.zero_ne_one, Nat.one_ne_zero, Nat.zero_add, List.nil_append, List.cons_append, Option.toList_some, Option.toList_none, forall_const, false_implies, true_implies, false_or, or_false, true_or, or_true, i_le, i_lt, i_eq, i_eq0, i_lt0, i_0le, i_0lt, i_le0, i_in1, i_cl, nI_add, pk_mul, pk_sub, i_div, i_rem, i_sh1, i_bit, i_or, i_and, i_andn, nt_le, nf_le, nt_lt, nf_lt, nt_eq, nf_eq, not_true_eq_false, and_self, and_false, false_and, eq_self, Bool.toNat_true, Bool.toNat_false, i_bool, i_bool1, Bool.false_eq_true, Bool.true_eq_false, reduceCtorEq, i_neg1, i_neg2, i_neg3, i_neg4, i_neg5, i_neg6, i_neg7, i_neg8, i_neg9, i_nega, i_negb, i_negc, i_max2, i_min2, wi_nil]
            repeat (
              first
              | refine s_X9_spare_0 ?_
              | refine s_X9_spare_7 ?_
              | refine s_X9_spare_10 ?_
              | refine s_X9_spare_17 ?_
              | refine s_X9_spare_39 ?_
              | refine s_X9_spare_59 ?_
              | refine s_X9_spare_60 ?_
              | refine s_X9_spare_79 ?_
              | refine s_X9_spare_84 ?_
              | refine s_X9_spare_87 ?_
              | refine s_X9_spare_92 ?_
              | refine s_X9_spare_93 ?_
              | refine s_X9_spare_100 ?_
              | refine s_X9_spare_111 ?_
              | refine s_X9_spare_117 ?_
              | refine s_X9_spare_121 ?_
              simp (disch := omega) only [B_X9_spare_0, wi_aload_n, wi_iload_n, wi_iconst, wi_invokestatic, B_X9_spare_7, wi_invokevirtual, cnt_8, B_X9_spare_10, wi_istore_n, wi_if_ge, wi_ireturn, B_X9_spare_17, wi_bipush, wi_istore, B_X9_spare_23, wi_iload, wi_getfield, fldv_8_10, fds_8_10, wi_ishl, wi_icmp_ge, B_X9_spare_39, wi_icmp_ne, fldv_8_20, fds_8_20, wi_iaload, wi_iand, wi_if_ne, wi_goto, cnt_40, aTy_40, aLn_40, arr_40, B_X9_spare_59, B_X9_spare_60, wi_if_eq, wi_icmp_eq, B_X9_spare_79, B_X9_spare_84, wi_icmp_le, B_X9_spare_87, B_X9_spare_92, B_X9_spare_93, wi_iinc, B_X9_spare_100, B_X9_spare_111, B_X9_spare_117, B_X9_spare_121, no0, no1, nz1, nz2, nz3, nz4, nz5, nz7, nz8, Classical.not_not, bz0, bz1, wi_nil, ld_0, ld_s, isIv_I, isLv_L, isRv_R, true_and, and_true, lset_0, lset_1, lset_s, avw_I, avw_L, avw_R, clr_cons, clr_nil, kst_0, kst_1, kstL_0, kstL_1, addk_I, pA_0, pA_s, pD_0, pD_s, wid_nil, wid_cons, rcv_c, putv_I, putv_L, List.length_cons, List.length_nil, List.set_cons_zero, List.set_cons_succ, not_false_eq_true, Nat.reduceMod, Nat.reduceDiv, Nat.reduceEqDiff, Nat.reduceLT, Nat.reduceLeDiff, Nat.reduceAdd, Nat.reduceSub, reduceIte, Nat.lt_irrefl, Nat.zero_ne_one, Nat.one_ne_zero, Nat.zero_add, List.nil_append, List.cons_append, Option.toList_some, Option.toList_none, forall_const, false_implies, true_implies, false_or, or_false, true_or, or_true, i_le, i_lt, i_eq, i_eq0, i_lt0, i_0le, i_0lt, i_le0, i_in1, i_cl, nI_add, pk_mul, pk_sub, i_div, i_rem, i_sh1, i_bit, i_or, i_and, i_andn, nt_le, nf_le, nt_lt, nf_lt, nt_eq, nf_eq, not_true_eq_false, and_self, and_false, false_and, eq_self, Bool.toNat_true, Bool.toNat_false, i_bool, i_bool1, Bool.false_eq_true, Bool.true_eq_false, reduceCtorEq, i_neg1, i_neg2, i_neg3, i_neg4, i_neg5, i_neg6, i_neg7, i_neg8, i_neg9, i_nega, i_negb, i_negc, i_max2, i_min2])
            exact hnx
          · rw [if_neg (fun q => c3 (of_decide_eq_true q))] at hnx
            try simp (disch := omega) only [no0, no1, nz1, nz2, nz3, nz4, nz5, nz7, nz8, Classical.not_not, bz0, bz1, wi_nil, ld_0, ld_s, isIv_I, isLv_L, isRv_R, true_and, and_true, lset_0, lset_1, lset_s, avw_I, avw_L, avw_R, clr_cons, clr_nil, kst_0, kst_1, kstL_0, kstL_1, addk_I, pA_0, pA_s, pD_0, pD_s, wid_nil, wid_cons, rcv_c, putv_I, putv_L, List.length_cons, List.length_nil, List.set_cons_zero, List.set_cons_succ, not_false_eq_true, Nat.reduceMod, Nat.reduceDiv, Nat.reduceEqDiff, Nat.reduceLT, Nat.reduceLeDiff, Nat.reduceAdd, Nat.reduceSub, reduceIte, Nat.lt_irrefl, Nat.zero_ne_one, Nat.one_ne_zero, Nat.zero_add, List.nil_append, List.cons_append, Option.toList_some, Option.toList_none, forall_const, false_implies, true_implies, false_or, or_false, true_or, or_true, i_le, i_lt, i_eq, i_eq0, i_lt0, i_0le, i_0lt, i_le0, i_in1, i_cl, nI_add, pk_mul, pk_sub, i_div, i_rem, i_sh1, i_bit, i_or, i_and, i_andn, nt_le, nf_le, nt_lt, nf_lt, nt_eq, nf_eq, not_true_eq_false, and_self, and_false, false_and, eq_self, Bool.toNat_true, Bool.toNat_false, i_bool, i_bool1, Bool.false_eq_true, Bool.true_eq_false, reduceCtorEq, i_neg1, i_neg2, i_neg3, i_neg4, i_neg5, i_neg6, i_neg7, i_neg8, i_neg9, i_nega, i_negb, i_negc, i_max2, i_min2, wi_nil]
            repeat (
              first
              | refine s_X9_spare_0 ?_
              | refine s_X9_spare_7 ?_
              | refine s_X9_spare_10 ?_
              | refine s_X9_spare_17 ?_
              | refine s_X9_spare_39 ?_
              | refine s_X9_spare_59 ?_
              | refine s_X9_spare_60 ?_
              | refine s_X9_spare_79 ?_
              | refine s_X9_spare_84 ?_
              | refine s_X9_spare_87 ?_
              | refine s_X9_spare_92 ?_
              | refine s_X9_spare_93 ?_
              | refine s_X9_spare_100 ?_
              | refine s_X9_spare_111 ?_
              | refine s_X9_spare_117 ?_
              | refine s_X9_spare_121 ?_
              simp (disch := omega) only [B_X9_spare_0, wi_aload_n, wi_iload_n, wi_iconst, wi_invokestatic, B_X9_spare_7, wi_invokevirtual, cnt_8, B_X9_spare_10, wi_istore_n, wi_if_ge, wi_ireturn, B_X9_spare_17, wi_bipush, wi_istore, B_X9_spare_23, wi_iload, wi_getfield, fldv_8_10, fds_8_10, wi_ishl, wi_icmp_ge, B_X9_spare_39, wi_icmp_ne, fldv_8_20, fds_8_20, wi_iaload, wi_iand, wi_if_ne, wi_goto, cnt_40, aTy_40, aLn_40, arr_40, B_X9_spare_59, B_X9_spare_60, wi_if_eq, wi_icmp_eq, B_X9_spare_79, B_X9_spare_84, wi_icmp_le, B_X9_spare_87, B_X9_spare_92, B_X9_spare_93, wi_iinc, B_X9_spare_100, B_X9_spare_111, B_X9_spare_117, B_X9_spare_121, no0, no1, nz1, nz2, nz3, nz4, nz5, nz7, nz8, Classical.not_not, bz0, bz1, wi_nil, ld_0, ld_s, isIv_I, isLv_L, isRv_R, true_and, and_true, lset_0, lset_1, lset_s, avw_I, avw_L, avw_R, clr_cons, clr_nil, kst_0, kst_1, kstL_0, kstL_1, addk_I, pA_0, pA_s, pD_0, pD_s, wid_nil, wid_cons, rcv_c, putv_I, putv_L, List.length_cons, List.length_nil, List.set_cons_zero, List.set_cons_succ, not_false_eq_true, Nat.reduceMod, Nat.reduceDiv, Nat.reduceEqDiff, Nat.reduceLT, Nat.reduceLeDiff, Nat.reduceAdd, Nat.reduceSub, reduceIte, Nat.lt_irrefl, Nat.zero_ne_one, Nat.one_ne_zero, Nat.zero_add, List.nil_append, List.cons_append, Option.toList_some, Option.toList_none, forall_const, false_implies, true_implies, false_or, or_false, true_or, or_true, i_le, i_lt, i_eq, i_eq0, i_lt0, i_0le, i_0lt, i_le0, i_in1, i_cl, nI_add, pk_mul, pk_sub, i_div, i_rem, i_sh1, i_bit, i_or, i_and, i_andn, nt_le, nf_le, nt_lt, nf_lt, nt_eq, nf_eq, not_true_eq_false, and_self, and_false, false_and, eq_self, Bool.toNat_true, Bool.toNat_false, i_bool, i_bool1, Bool.false_eq_true, Bool.true_eq_false, reduceCtorEq, i_neg1, i_neg2, i_neg3, i_neg4, i_neg5, i_neg6, i_neg7, i_neg8, i_neg9, i_nega, i_negb, i_negc, i_max2, i_min2])
            exact hnx
      · try simp (disch := omega) only [no0, no1, nz1, nz2, nz3, nz4, nz5, nz7, nz8, Classical.not_not, bz0, bz1, wi_nil, ld_0, ld_s, isIv_I, isLv_L, isRv_R, true_and, and_true, lset_0, lset_1, lset_s, avw_I, avw_L, avw_R, clr_cons, clr_nil, kst_0, kst_1, kstL_0, kstL_1, addk_I, pA_0, pA_s, pD_0, pD_s, wid_nil, wid_cons, rcv_c, putv_I, putv_L, List.length_cons, List.length_nil, List.set_cons_zero, List.set_cons_succ, not_false_eq_true, Nat.reduceMod, Nat.reduceDiv, Nat.reduceEqDiff, Nat.reduceLT, Nat.reduceLeDiff, Nat.reduceAdd, Nat.reduceSub, reduceIte, Nat.lt_irrefl, Nat.zero_ne_one, Nat.one_ne_zero, Nat.zero_add, List.nil_append, List.cons_append, Option.toList_some, Option.toList_none, forall_const, false_implies, true_implies, false_or, or_false, true_or, or_true, i_le, i_lt, i_eq, i_eq0, i_lt0, i_0le, i_0lt, i_le0, i_in1, i_cl, nI_add, pk_mul, pk_sub, i_div, i_rem, i_sh1, i_bit, i_or, i_and, i_andn, nt_le, nf_le, nt_lt, nf_lt, nt_eq, nf_eq, not_true_eq_false, and_self, and_false, false_and, eq_self, Bool.toNat_true, Bool.toNat_false, i_bool, i_bool1, Bool.false_eq_true, Bool.true_eq_false, reduceCtorEq, i_neg1, i_neg2, i_neg3, i_neg4, i_neg5, i_neg6, i_neg7, i_neg8, i_neg9, i_nega, i_negb, i_negc, i_max2, i_min2, (m_gone hm), wi_nil]
        repeat (
          first
          | refine s_X9_spare_0 ?_
          | refine s_X9_spare_7 ?_
          | refine s_X9_spare_10 ?_
          | refine s_X9_spare_17 ?_
          | refine s_X9_spare_39 ?_
          | refine s_X9_spare_59 ?_
          | refine s_X9_spare_79 ?_
          | refine s_X9_spare_84 ?_
          | refine s_X9_spare_87 ?_
          | refine s_X9_spare_92 ?_
          | refine s_X9_spare_93 ?_
          | refine s_X9_spare_100 ?_
          | refine s_X9_spare_111 ?_
          | refine s_X9_spare_117 ?_
          | refine s_X9_spare_121 ?_
          simp (disch := omega) only [B_X9_spare_0, wi_aload_n, wi_iload_n, wi_iconst, wi_invokestatic, B_X9_spare_7, wi_invokevirtual, cnt_8, B_X9_spare_10, wi_istore_n, wi_if_ge, wi_ireturn, B_X9_spare_17, wi_bipush, wi_istore, B_X9_spare_23, wi_iload, wi_getfield, fldv_8_10, fds_8_10, wi_ishl, wi_icmp_ge, B_X9_spare_39, wi_icmp_ne, fldv_8_20, fds_8_20, wi_iaload, wi_iand, wi_if_ne, wi_goto, cnt_40, aTy_40, aLn_40, arr_40, B_X9_spare_59, B_X9_spare_60, wi_if_eq, wi_icmp_eq, B_X9_spare_79, B_X9_spare_84, wi_icmp_le, B_X9_spare_87, B_X9_spare_92, B_X9_spare_93, wi_iinc, B_X9_spare_100, B_X9_spare_111, B_X9_spare_117, B_X9_spare_121, no0, no1, nz1, nz2, nz3, nz4, nz5, nz7, nz8, Classical.not_not, bz0, bz1, wi_nil, ld_0, ld_s, isIv_I, isLv_L, isRv_R, true_and, and_true, lset_0, lset_1, lset_s, avw_I, avw_L, avw_R, clr_cons, clr_nil, kst_0, kst_1, kstL_0, kstL_1, addk_I, pA_0, pA_s, pD_0, pD_s, wid_nil, wid_cons, rcv_c, putv_I, putv_L, List.length_cons, List.length_nil, List.set_cons_zero, List.set_cons_succ, not_false_eq_true, Nat.reduceMod, Nat.reduceDiv, Nat.reduceEqDiff, Nat.reduceLT, Nat.reduceLeDiff, Nat.reduceAdd, Nat.reduceSub, reduceIte, Nat.lt_irrefl, Nat.zero_ne_one, Nat.one_ne_zero, Nat.zero_add, List.nil_append, List.cons_append, Option.toList_some, Option.toList_none, forall_const, false_implies, true_implies, false_or, or_false, true_or, or_true, i_le, i_lt, i_eq, i_eq0, i_lt0, i_0le, i_0lt, i_le0, i_in1, i_cl, nI_add, pk_mul, pk_sub, i_div, i_rem, i_sh1, i_bit, i_or, i_and, i_andn, nt_le, nf_le, nt_lt, nf_lt, nt_eq, nf_eq, not_true_eq_false, and_self, and_false, false_and, eq_self, Bool.toNat_true, Bool.toNat_false, i_bool, i_bool1, Bool.false_eq_true, Bool.true_eq_false, reduceCtorEq, i_neg1, i_neg2, i_neg3, i_neg4, i_neg5, i_neg6, i_neg7, i_neg8, i_neg9, i_nega, i_negb, i_negc, i_max2, i_min2, (m_gone hm)])
        exact bad (fun q => c1 (hsb.mp q.1).2)
    · try simp (disch := omega) only [no0, no1, nz1, nz2, nz3, nz4, nz5, nz7, nz8, Classical.not_not, bz0, bz1, wi_nil, ld_0, ld_s, isIv_I, isLv_L, isRv_R, true_and, and_true, lset_0, lset_1, lset_s, avw_I, avw_L, avw_R, clr_cons, clr_nil, kst_0, kst_1, kstL_0, kstL_1, addk_I, pA_0, pA_s, pD_0, pD_s, wid_nil, wid_cons, rcv_c, putv_I, putv_L, List.length_cons, List.length_nil, List.set_cons_zero, List.set_cons_succ, not_false_eq_true, Nat.reduceMod, Nat.reduceDiv, Nat.reduceEqDiff, Nat.reduceLT, Nat.reduceLeDiff, Nat.reduceAdd, Nat.reduceSub, reduceIte, Nat.lt_irrefl, Nat.zero_ne_one, Nat.one_ne_zero, Nat.zero_add, List.nil_append, List.cons_append, Option.toList_some, Option.toList_none, forall_const, false_implies, true_implies, false_or, or_false, true_or, or_true, i_le, i_lt, i_eq, i_eq0, i_lt0, i_0le, i_0lt, i_le0, i_in1, i_cl, nI_add, pk_mul, pk_sub, i_div, i_rem, i_sh1, i_bit, i_or, i_and, i_andn, nt_le, nf_le, nt_lt, nf_lt, nt_eq, nf_eq, not_true_eq_false, and_self, and_false, false_and, eq_self, Bool.toNat_true, Bool.toNat_false, i_bool, i_bool1, Bool.false_eq_true, Bool.true_eq_false, reduceCtorEq, i_neg1, i_neg2, i_neg3, i_neg4, i_neg5, i_neg6, i_neg7, i_neg8, i_neg9, i_nega, i_negb, i_negc, i_max2, i_min2, wi_nil]
      repeat (
        first
        | refine s_X9_spare_0 ?_
        | refine s_X9_spare_7 ?_
        | refine s_X9_spare_10 ?_
        | refine s_X9_spare_17 ?_
        | refine s_X9_spare_39 ?_
        | refine s_X9_spare_59 ?_
        | refine s_X9_spare_79 ?_
        | refine s_X9_spare_84 ?_
        | refine s_X9_spare_87 ?_
        | refine s_X9_spare_92 ?_
        | refine s_X9_spare_93 ?_
        | refine s_X9_spare_100 ?_
        | refine s_X9_spare_111 ?_
        | refine s_X9_spare_117 ?_
        | refine s_X9_spare_121 ?_
        simp (disch := omega) only [B_X9_spare_0, wi_aload_n, wi_iload_n, wi_iconst, wi_invokestatic, B_X9_spare_7, wi_invokevirtual, cnt_8, B_X9_spare_10, wi_istore_n, wi_if_ge, wi_ireturn, B_X9_spare_17, wi_bipush, wi_istore, B_X9_spare_23, wi_iload, wi_getfield, fldv_8_10, fds_8_10, wi_ishl, wi_icmp_ge, B_X9_spare_39, wi_icmp_ne, fldv_8_20, fds_8_20, wi_iaload, wi_iand, wi_if_ne, wi_goto, cnt_40, aTy_40, aLn_40, arr_40, B_X9_spare_59, B_X9_spare_60, wi_if_eq, wi_icmp_eq, B_X9_spare_79, B_X9_spare_84, wi_icmp_le, B_X9_spare_87, B_X9_spare_92, B_X9_spare_93, wi_iinc, B_X9_spare_100, B_X9_spare_111, B_X9_spare_117, B_X9_spare_121, no0, no1, nz1, nz2, nz3, nz4, nz5, nz7, nz8, Classical.not_not, bz0, bz1, wi_nil, ld_0, ld_s, isIv_I, isLv_L, isRv_R, true_and, and_true, lset_0, lset_1, lset_s, avw_I, avw_L, avw_R, clr_cons, clr_nil, kst_0, kst_1, kstL_0, kstL_1, addk_I, pA_0, pA_s, pD_0, pD_s, wid_nil, wid_cons, rcv_c, putv_I, putv_L, List.length_cons, List.length_nil, List.set_cons_zero, List.set_cons_succ, not_false_eq_true, Nat.reduceMod, Nat.reduceDiv, Nat.reduceEqDiff, Nat.reduceLT, Nat.reduceLeDiff, Nat.reduceAdd, Nat.reduceSub, reduceIte, Nat.lt_irrefl, Nat.zero_ne_one, Nat.one_ne_zero, Nat.zero_add, List.nil_append, List.cons_append, Option.toList_some, Option.toList_none, forall_const, false_implies, true_implies, false_or, or_false, true_or, or_true, i_le, i_lt, i_eq, i_eq0, i_lt0, i_0le, i_0lt, i_le0, i_in1, i_cl, nI_add, pk_mul, pk_sub, i_div, i_rem, i_sh1, i_bit, i_or, i_and, i_andn, nt_le, nf_le, nt_lt, nf_lt, nt_eq, nf_eq, not_true_eq_false, and_self, and_false, false_and, eq_self, Bool.toNat_true, Bool.toNat_false, i_bool, i_bool1, Bool.false_eq_true, Bool.true_eq_false, reduceCtorEq, i_neg1, i_neg2, i_neg3, i_neg4, i_neg5, i_neg6, i_neg7, i_neg8, i_neg9, i_nega, i_negb, i_negc, i_max2, i_min2])
      exact bad (fun q => c2 q.2)
theorem o_spare {v : Int32} (h : Rr S) : wpM (d + 10) mX8_spare [aR 7 0, aI v] S (PX d mX9_spare [aI v]) := by
  obtain ⟨Y, hy, hok, hm⟩ := r_year h
  have hn5 := hok.1.1
  have h32 := p2_lt hn5
  cases hv : inB v 6
  · have key : wpM (d + 10) mX9_spare [aR 8 0, aI v] S (PM (-nI 1)) := by
      refine x_entry (ls2 := [aR 8 0, aI v, aU, aU, aU, aU]) (Nat.le_of_ble_eq_true rfl) pl_9 rfl (Nat.le_of_ble_eq_true rfl) ?_
      try simp (disch := omega) only [no0, no1, nz1, nz2, nz3, nz4, nz5, nz7, nz8, Classical.not_not, bz0, bz1, wi_nil, ld_0, ld_s, isIv_I, isLv_L, isRv_R, true_and, and_true, lset_0, lset_1, lset_s, avw_I, avw_L, avw_R, clr_cons, clr_nil, kst_0, kst_1, kstL_0, kstL_1, addk_I, pA_0, pA_s, pD_0, pD_s, wid_nil, wid_cons, rcv_c, putv_I, putv_L, List.length_cons, List.length_nil, List.set_cons_zero, List.set_cons_succ, not_false_eq_true, Nat.reduceMod, Nat.reduceDiv, Nat.reduceEqDiff, Nat.reduceLT, Nat.reduceLeDiff, Nat.reduceAdd, Nat.reduceSub, reduceIte, Nat.lt_irrefl, Nat.zero_ne_one, Nat.one_ne_zero, Nat.zero_add, List.nil_append, List.cons_append, Option.toList_some, Option.toList_none, forall_const, false_implies, true_implies, false_or, or_false, true_or, or_true, i_le, i_lt, i_eq, i_eq0, i_lt0, i_0le, i_0lt, i_le0, i_in1, i_cl, nI_add, pk_mul, pk_sub, i_div, i_rem, i_sh1, i_bit, i_or, i_and, i_andn, nt_le, nf_le, nt_lt, nf_lt, nt_eq, nf_eq, not_true_eq_false, and_self, and_false, false_and, eq_self, Bool.toNat_true, Bool.toNat_false, i_bool, i_bool1, Bool.false_eq_true, Bool.true_eq_false, reduceCtorEq, i_neg1, i_neg2, i_neg3, i_neg4, i_neg5, i_neg6, i_neg7, i_neg8, i_neg9, i_nega, i_negb, i_negc, i_max2, i_min2, wi_nil]
      repeat (
        first
        | refine s_X9_spare_0 ?_
        | refine s_X9_spare_7 ?_
        | refine s_X9_spare_10 ?_
        | refine s_X9_spare_17 ?_
        | refine s_X9_spare_39 ?_
        | refine s_X9_spare_59 ?_
        | refine s_X9_spare_60 ?_
        | refine s_X9_spare_79 ?_
        | refine s_X9_spare_84 ?_
        | refine s_X9_spare_87 ?_
        | refine s_X9_spare_92 ?_
        | refine s_X9_spare_93 ?_
        | refine s_X9_spare_100 ?_
        | refine s_X9_spare_111 ?_
        | refine s_X9_spare_117 ?_
        | refine s_X9_spare_121 ?_
        simp (disch := omega) only [B_X9_spare_0, wi_aload_n, wi_iload_n, wi_iconst, wi_invokestatic, B_X9_spare_7, wi_invokevirtual, cnt_8, B_X9_spare_10, wi_istore_n, wi_if_ge, wi_ireturn, B_X9_spare_17, wi_bipush, wi_istore, B_X9_spare_23, wi_iload, wi_getfield, fldv_8_10, fds_8_10, wi_ishl, wi_icmp_ge, B_X9_spare_39, wi_icmp_ne, fldv_8_20, fds_8_20, wi_iaload, wi_iand, wi_if_ne, wi_goto, cnt_40, aTy_40, aLn_40, arr_40, B_X9_spare_59, B_X9_spare_60, wi_if_eq, wi_icmp_eq, B_X9_spare_79, B_X9_spare_84, wi_icmp_le, B_X9_spare_87, B_X9_spare_92, B_X9_spare_93, wi_iinc, B_X9_spare_100, B_X9_spare_111, B_X9_spare_117, B_X9_spare_121, no0, no1, nz1, nz2, nz3, nz4, nz5, nz7, nz8, Classical.not_not, bz0, bz1, wi_nil, ld_0, ld_s, isIv_I, isLv_L, isRv_R, true_and, and_true, lset_0, lset_1, lset_s, avw_I, avw_L, avw_R, clr_cons, clr_nil, kst_0, kst_1, kstL_0, kstL_1, addk_I, pA_0, pA_s, pD_0, pD_s, wid_nil, wid_cons, rcv_c, putv_I, putv_L, List.length_cons, List.length_nil, List.set_cons_zero, List.set_cons_succ, not_false_eq_true, Nat.reduceMod, Nat.reduceDiv, Nat.reduceEqDiff, Nat.reduceLT, Nat.reduceLeDiff, Nat.reduceAdd, Nat.reduceSub, reduceIte, Nat.lt_irrefl, Nat.zero_ne_one, Nat.one_ne_zero, Nat.zero_add, List.nil_append, List.cons_append, Option.toList_some, Option.toList_none, forall_const, false_implies, true_implies, false_or, or_false, true_or, or_true, i_le, i_lt, i_eq, i_eq0, i_lt0, i_0le, i_0lt, i_le0, i_in1, i_cl, nI_add, pk_mul, pk_sub, i_div, i_rem, i_sh1, i_bit, i_or, i_and, i_andn, nt_le, nf_le, nt_lt, nf_lt, nt_eq, nf_eq, not_true_eq_false, and_self, and_false, false_and, eq_self, Bool.toNat_true, Bool.toNat_false, i_bool, i_bool1, Bool.false_eq_true, Bool.true_eq_false, reduceCtorEq, i_neg1, i_neg2, i_neg3, i_neg4, i_neg5, i_neg6, i_neg7, i_neg8, i_neg9, i_nega, i_negb, i_negc, i_max2, i_min2])
      refine c_in (inb_le (N := 5) (by decide)) ?_
      try simp (disch := omega) only [no0, no1, nz1, nz2, nz3, nz4, nz5, nz7, nz8, Classical.not_not, bz0, bz1, wi_nil, ld_0, ld_s, isIv_I, isLv_L, isRv_R, true_and, and_true, lset_0, lset_1, lset_s, avw_I, avw_L, avw_R, clr_cons, clr_nil, kst_0, kst_1, kstL_0, kstL_1, addk_I, pA_0, pA_s, pD_0, pD_s, wid_nil, wid_cons, rcv_c, putv_I, putv_L, List.length_cons, List.length_nil, List.set_cons_zero, List.set_cons_succ, not_false_eq_true, Nat.reduceMod, Nat.reduceDiv, Nat.reduceEqDiff, Nat.reduceLT, Nat.reduceLeDiff, Nat.reduceAdd, Nat.reduceSub, reduceIte, Nat.lt_irrefl, Nat.zero_ne_one, Nat.one_ne_zero, Nat.zero_add, List.nil_append, List.cons_append, Option.toList_some, Option.toList_none, forall_const, false_implies, true_implies, false_or, or_false, true_or, or_true, i_le, i_lt, i_eq, i_eq0, i_lt0, i_0le, i_0lt, i_le0, i_in1, i_cl, nI_add, pk_mul, pk_sub, i_div, i_rem, i_sh1, i_bit, i_or, i_and, i_andn, nt_le, nf_le, nt_lt, nf_lt, nt_eq, nf_eq, not_true_eq_false, and_self, and_false, false_and, eq_self, Bool.toNat_true, Bool.toNat_false, i_bool, i_bool1, Bool.false_eq_true, Bool.true_eq_false, reduceCtorEq, i_neg1, i_neg2, i_neg3, i_neg4, i_neg5, i_neg6, i_neg7, i_neg8, i_neg9, i_nega, i_negb, i_negc, i_max2, i_min2, hv, wi_nil]
      repeat (
        first
        | refine s_X9_spare_0 ?_
        | refine s_X9_spare_7 ?_
        | refine s_X9_spare_10 ?_
        | refine s_X9_spare_17 ?_
        | refine s_X9_spare_39 ?_
        | refine s_X9_spare_59 ?_
        | refine s_X9_spare_60 ?_
        | refine s_X9_spare_79 ?_
        | refine s_X9_spare_84 ?_
        | refine s_X9_spare_87 ?_
        | refine s_X9_spare_92 ?_
        | refine s_X9_spare_93 ?_
        | refine s_X9_spare_100 ?_
        | refine s_X9_spare_111 ?_
        | refine s_X9_spare_117 ?_
        | refine s_X9_spare_121 ?_
        simp (disch := omega) only [B_X9_spare_0, wi_aload_n, wi_iload_n, wi_iconst, wi_invokestatic, B_X9_spare_7, wi_invokevirtual, cnt_8, B_X9_spare_10, wi_istore_n, wi_if_ge, wi_ireturn, B_X9_spare_17, wi_bipush, wi_istore, B_X9_spare_23, wi_iload, wi_getfield, fldv_8_10, fds_8_10, wi_ishl, wi_icmp_ge, B_X9_spare_39, wi_icmp_ne, fldv_8_20, fds_8_20, wi_iaload, wi_iand, wi_if_ne, wi_goto, cnt_40, aTy_40, aLn_40, arr_40, B_X9_spare_59, B_X9_spare_60, wi_if_eq, wi_icmp_eq, B_X9_spare_79, B_X9_spare_84, wi_icmp_le, B_X9_spare_87, B_X9_spare_92, B_X9_spare_93, wi_iinc, B_X9_spare_100, B_X9_spare_111, B_X9_spare_117, B_X9_spare_121, no0, no1, nz1, nz2, nz3, nz4, nz5, nz7, nz8, Classical.not_not, bz0, bz1, wi_nil, ld_0, ld_s, isIv_I, isLv_L, isRv_R, true_and, and_true, lset_0, lset_1, lset_s, avw_I, avw_L, avw_R, clr_cons, clr_nil, kst_0, kst_1, kstL_0, kstL_1, addk_I, pA_0, pA_s, pD_0, pD_s, wid_nil, wid_cons, rcv_c, putv_I, putv_L, List.length_cons, List.length_nil, List.set_cons_zero, List.set_cons_succ, not_false_eq_true, Nat.reduceMod, Nat.reduceDiv, Nat.reduceEqDiff, Nat.reduceLT, Nat.reduceLeDiff, Nat.reduceAdd, Nat.reduceSub, reduceIte, Nat.lt_irrefl, Nat.zero_ne_one, Nat.one_ne_zero, Nat.zero_add, List.nil_append, List.cons_append, Option.toList_some, Option.toList_none, forall_const, false_implies, true_implies, false_or, or_false, true_or, or_true, i_le, i_lt, i_eq, i_eq0, i_lt0, i_0le, i_0lt, i_le0, i_in1, i_cl, nI_add, pk_mul, pk_sub, i_div, i_rem, i_sh1, i_bit, i_or, i_and, i_andn, nt_le, nf_le, nt_lt, nf_lt, nt_eq, nf_eq, not_true_eq_false, and_self, and_false, false_and, eq_self, Bool.toNat_true, Bool.toNat_false, i_bool, i_bool1, Bool.false_eq_true, Bool.true_eq_false, reduceCtorEq, i_neg1, i_neg2, i_neg3, i_neg4, i_neg5, i_neg6, i_neg7, i_neg8, i_neg9, i_nega, i_negb, i_negc, i_max2, i_min2, hv])
      refine c_need0 hm hn5 ?_
      try simp (disch := omega) only [no0, no1, nz1, nz2, nz3, nz4, nz5, nz7, nz8, Classical.not_not, bz0, bz1, wi_nil, ld_0, ld_s, isIv_I, isLv_L, isRv_R, true_and, and_true, lset_0, lset_1, lset_s, avw_I, avw_L, avw_R, clr_cons, clr_nil, kst_0, kst_1, kstL_0, kstL_1, addk_I, pA_0, pA_s, pD_0, pD_s, wid_nil, wid_cons, rcv_c, putv_I, putv_L, List.length_cons, List.length_nil, List.set_cons_zero, List.set_cons_succ, not_false_eq_true, Nat.reduceMod, Nat.reduceDiv, Nat.reduceEqDiff, Nat.reduceLT, Nat.reduceLeDiff, Nat.reduceAdd, Nat.reduceSub, reduceIte, Nat.lt_irrefl, Nat.zero_ne_one, Nat.one_ne_zero, Nat.zero_add, List.nil_append, List.cons_append, Option.toList_some, Option.toList_none, forall_const, false_implies, true_implies, false_or, or_false, true_or, or_true, i_le, i_lt, i_eq, i_eq0, i_lt0, i_0le, i_0lt, i_le0, i_in1, i_cl, nI_add, pk_mul, pk_sub, i_div, i_rem, i_sh1, i_bit, i_or, i_and, i_andn, nt_le, nf_le, nt_lt, nf_lt, nt_eq, nf_eq, not_true_eq_false, and_self, and_false, false_and, eq_self, Bool.toNat_true, Bool.toNat_false, i_bool, i_bool1, Bool.false_eq_true, Bool.true_eq_false, reduceCtorEq, i_neg1, i_neg2, i_neg3, i_neg4, i_neg5, i_neg6, i_neg7, i_neg8, i_neg9, i_nega, i_negb, i_negc, i_max2, i_min2, wi_nil]
      repeat (
        first
        | refine s_X9_spare_0 ?_
        | refine s_X9_spare_7 ?_
        | refine s_X9_spare_10 ?_
        | refine s_X9_spare_17 ?_
        | refine s_X9_spare_39 ?_
        | refine s_X9_spare_59 ?_
        | refine s_X9_spare_60 ?_
        | refine s_X9_spare_79 ?_
        | refine s_X9_spare_84 ?_
        | refine s_X9_spare_87 ?_
        | refine s_X9_spare_92 ?_
        | refine s_X9_spare_93 ?_
        | refine s_X9_spare_100 ?_
        | refine s_X9_spare_111 ?_
        | refine s_X9_spare_117 ?_
        | refine s_X9_spare_121 ?_
        simp (disch := omega) only [B_X9_spare_0, wi_aload_n, wi_iload_n, wi_iconst, wi_invokestatic, B_X9_spare_7, wi_invokevirtual, cnt_8, B_X9_spare_10, wi_istore_n, wi_if_ge, wi_ireturn, B_X9_spare_17, wi_bipush, wi_istore, B_X9_spare_23, wi_iload, wi_getfield, fldv_8_10, fds_8_10, wi_ishl, wi_icmp_ge, B_X9_spare_39, wi_icmp_ne, fldv_8_20, fds_8_20, wi_iaload, wi_iand, wi_if_ne, wi_goto, cnt_40, aTy_40, aLn_40, arr_40, B_X9_spare_59, B_X9_spare_60, wi_if_eq, wi_icmp_eq, B_X9_spare_79, B_X9_spare_84, wi_icmp_le, B_X9_spare_87, B_X9_spare_92, B_X9_spare_93, wi_iinc, B_X9_spare_100, B_X9_spare_111, B_X9_spare_117, B_X9_spare_121, no0, no1, nz1, nz2, nz3, nz4, nz5, nz7, nz8, Classical.not_not, bz0, bz1, wi_nil, ld_0, ld_s, isIv_I, isLv_L, isRv_R, true_and, and_true, lset_0, lset_1, lset_s, avw_I, avw_L, avw_R, clr_cons, clr_nil, kst_0, kst_1, kstL_0, kstL_1, addk_I, pA_0, pA_s, pD_0, pD_s, wid_nil, wid_cons, rcv_c, putv_I, putv_L, List.length_cons, List.length_nil, List.set_cons_zero, List.set_cons_succ, not_false_eq_true, Nat.reduceMod, Nat.reduceDiv, Nat.reduceEqDiff, Nat.reduceLT, Nat.reduceLeDiff, Nat.reduceAdd, Nat.reduceSub, reduceIte, Nat.lt_irrefl, Nat.zero_ne_one, Nat.one_ne_zero, Nat.zero_add, List.nil_append, List.cons_append, Option.toList_some, Option.toList_none, forall_const, false_implies, true_implies, false_or, or_false, true_or, or_true, i_le, i_lt, i_eq, i_eq0, i_lt0, i_0le, i_0lt, i_le0, i_in1, i_cl, nI_add, pk_mul, pk_sub, i_div, i_rem, i_sh1, i_bit, i_or, i_and, i_andn, nt_le, nf_le, nt_lt, nf_lt, nt_eq, nf_eq, not_true_eq_false, and_self, and_false, false_and, eq_self, Bool.toNat_true, Bool.toNat_false, i_bool, i_bool1, Bool.false_eq_true, Bool.true_eq_false, reduceCtorEq, i_neg1, i_neg2, i_neg3, i_neg4, i_neg5, i_neg6, i_neg7, i_neg8, i_neg9, i_nega, i_negb, i_negc, i_max2, i_min2])
      exact pm h
    rcases off_gt (N := 5) (by decide) hv with a | ⟨a, b, -⟩
    · refine x_entry (ls2 := [aR 7 0, aI v, aU, aU, aU, aU]) (Nat.le_of_ble_eq_true rfl) pl_8 rfl (Nat.le_of_ble_eq_true rfl) ?_
      try simp (disch := omega) only [no0, no1, nz1, nz2, nz3, nz4, nz5, nz7, nz8, Classical.not_not, bz0, bz1, wi_nil, ld_0, ld_s, isIv_I, isLv_L, isRv_R, true_and, and_true, lset_0, lset_1, lset_s, avw_I, avw_L, avw_R, clr_cons, clr_nil, kst_0, kst_1, kstL_0, kstL_1, addk_I, pA_0, pA_s, pD_0, pD_s, wid_nil, wid_cons, rcv_c, putv_I, putv_L, List.length_cons, List.length_nil, List.set_cons_zero, List.set_cons_succ, not_false_eq_true, Nat.reduceMod, Nat.reduceDiv, Nat.reduceEqDiff, Nat.reduceLT, Nat.reduceLeDiff, Nat.reduceAdd, Nat.reduceSub, reduceIte, Nat.lt_irrefl, Nat.zero_ne_one, Nat.one_ne_zero, Nat.zero_add, List.nil_append, List.cons_append, Option.toList_some, Option.toList_none, forall_const, false_implies, true_implies, false_or, or_false, true_or, or_true, i_le, i_lt, i_eq, i_eq0, i_lt0, i_0le, i_0lt, i_le0, i_in1, i_cl, nI_add, pk_mul, pk_sub, i_div, i_rem, i_sh1, i_bit, i_or, i_and, i_andn, nt_le, nf_le, nt_lt, nf_lt, nt_eq, nf_eq, not_true_eq_false, and_self, and_false, false_and, eq_self, Bool.toNat_true, Bool.toNat_false, i_bool, i_bool1, Bool.false_eq_true, Bool.true_eq_false, reduceCtorEq, i_neg1, i_neg2, i_neg3, i_neg4, i_neg5, i_neg6, i_neg7, i_neg8, i_neg9, i_nega, i_negb, i_negc, i_max2, i_min2, a, wi_nil]
      repeat (
        first
        | refine s_X8_spare_0 ?_
        | refine s_X8_spare_9 ?_
        | refine s_X8_spare_11 ?_
        | refine s_X8_spare_24 ?_
        | refine s_X8_spare_31 ?_
        | refine s_X8_spare_62 ?_
        | refine s_X8_spare_75 ?_
        | refine s_X8_spare_92 ?_
        | refine s_X8_spare_94 ?_
        | refine s_X8_spare_100 ?_
        | refine s_X8_spare_112 ?_
        simp (disch := omega) only [B_X8_spare_0, wi_iload_n, wi_if_lt, wi_iconst, wi_icmp_le, B_X8_spare_9, wi_ireturn, B_X8_spare_11, wi_aload_n, wi_getfield, fldv_7_3, fds_7_3, cnt_7, fldv_6_7, fds_6_7, cnt_6, wi_if_ne, wi_bipush, B_X8_spare_24, wi_invokevirtual, B_X8_spare_31, wi_istore_n, wi_istore, B_X8_spare_41, wi_iload, wi_icmp_ge, wi_ixor, wi_iand, wi_invokestatic, B_X8_spare_62, wi_icmp_ne, B_X8_spare_75, B_X8_spare_92, B_X8_spare_94, wi_iinc, wi_goto, B_X8_spare_100, wi_icmp_eq, wi_putfield, pOk_7_11, B_X8_spare_112, no0, no1, nz1, nz2, nz3, nz4, nz5, nz7, nz8, Classical.not_not, bz0, bz1, wi_nil, ld_0, ld_s, isIv_I, isLv_L, isRv_R, true_and, and_true, lset_0, lset_1, lset_s, avw_I, avw_L, avw_R, clr_cons, clr_nil, kst_0, kst_1, kstL_0, kstL_1, addk_I, pA_0, pA_s, pD_0, pD_s, wid_nil, wid_cons, rcv_c, putv_I, putv_L, List.length_cons, List.length_nil, List.set_cons_zero, List.set_cons_succ, not_false_eq_true, Nat.reduceMod, Nat.reduceDiv, Nat.reduceEqDiff, Nat.reduceLT, Nat.reduceLeDiff, Nat.reduceAdd, Nat.reduceSub, reduceIte, Nat.lt_irrefl, Nat.zero_ne_one, Nat.one_ne_zero, Nat.zero_add, List.nil_append, List.cons_append, Option.toList_some, Option.toList_none, forall_const, false_implies, true_implies, false_or, or_false, true_or, or_true, i_le, i_lt, i_eq, i_eq0, i_lt0, i_0le, i_0lt, i_le0, i_in1, i_cl, nI_add, pk_mul, pk_sub, i_div, i_rem, i_sh1, i_bit, i_or, i_and, i_andn, nt_le, nf_le, nt_lt, nf_lt, nt_eq, nf_eq, not_true_eq_false, and_self, and_false, false_and, eq_self, Bool.toNat_true, Bool.toNat_false, i_bool, i_bool1, Bool.false_eq_true, Bool.true_eq_false, reduceCtorEq, i_neg1, i_neg2, i_neg3, i_neg4, i_neg5, i_neg6, i_neg7, i_neg8, i_neg9, i_nega, i_negb, i_negc, i_max2, i_min2, a])
      exact px key
    · refine x_entry (ls2 := [aR 7 0, aI v, aU, aU, aU, aU]) (Nat.le_of_ble_eq_true rfl) pl_8 rfl (Nat.le_of_ble_eq_true rfl) ?_
      try simp (disch := omega) only [no0, no1, nz1, nz2, nz3, nz4, nz5, nz7, nz8, Classical.not_not, bz0, bz1, wi_nil, ld_0, ld_s, isIv_I, isLv_L, isRv_R, true_and, and_true, lset_0, lset_1, lset_s, avw_I, avw_L, avw_R, clr_cons, clr_nil, kst_0, kst_1, kstL_0, kstL_1, addk_I, pA_0, pA_s, pD_0, pD_s, wid_nil, wid_cons, rcv_c, putv_I, putv_L, List.length_cons, List.length_nil, List.set_cons_zero, List.set_cons_succ, not_false_eq_true, Nat.reduceMod, Nat.reduceDiv, Nat.reduceEqDiff, Nat.reduceLT, Nat.reduceLeDiff, Nat.reduceAdd, Nat.reduceSub, reduceIte, Nat.lt_irrefl, Nat.zero_ne_one, Nat.one_ne_zero, Nat.zero_add, List.nil_append, List.cons_append, Option.toList_some, Option.toList_none, forall_const, false_implies, true_implies, false_or, or_false, true_or, or_true, i_le, i_lt, i_eq, i_eq0, i_lt0, i_0le, i_0lt, i_le0, i_in1, i_cl, nI_add, pk_mul, pk_sub, i_div, i_rem, i_sh1, i_bit, i_or, i_and, i_andn, nt_le, nf_le, nt_lt, nf_lt, nt_eq, nf_eq, not_true_eq_false, and_self, and_false, false_and, eq_self, Bool.toNat_true, Bool.toNat_false, i_bool, i_bool1, Bool.false_eq_true, Bool.true_eq_false, reduceCtorEq, i_neg1, i_neg2, i_neg3, i_neg4, i_neg5, i_neg6, i_neg7, i_neg8, i_neg9, i_nega, i_negb, i_negc, i_max2, i_min2, a, b, wi_nil]
      repeat (
        first
        | refine s_X8_spare_0 ?_
        | refine s_X8_spare_9 ?_
        | refine s_X8_spare_11 ?_
        | refine s_X8_spare_24 ?_
        | refine s_X8_spare_31 ?_
        | refine s_X8_spare_62 ?_
        | refine s_X8_spare_75 ?_
        | refine s_X8_spare_92 ?_
        | refine s_X8_spare_94 ?_
        | refine s_X8_spare_100 ?_
        | refine s_X8_spare_112 ?_
        simp (disch := omega) only [B_X8_spare_0, wi_iload_n, wi_if_lt, wi_iconst, wi_icmp_le, B_X8_spare_9, wi_ireturn, B_X8_spare_11, wi_aload_n, wi_getfield, fldv_7_3, fds_7_3, cnt_7, fldv_6_7, fds_6_7, cnt_6, wi_if_ne, wi_bipush, B_X8_spare_24, wi_invokevirtual, B_X8_spare_31, wi_istore_n, wi_istore, B_X8_spare_41, wi_iload, wi_icmp_ge, wi_ixor, wi_iand, wi_invokestatic, B_X8_spare_62, wi_icmp_ne, B_X8_spare_75, B_X8_spare_92, B_X8_spare_94, wi_iinc, wi_goto, B_X8_spare_100, wi_icmp_eq, wi_putfield, pOk_7_11, B_X8_spare_112, no0, no1, nz1, nz2, nz3, nz4, nz5, nz7, nz8, Classical.not_not, bz0, bz1, wi_nil, ld_0, ld_s, isIv_I, isLv_L, isRv_R, true_and, and_true, lset_0, lset_1, lset_s, avw_I, avw_L, avw_R, clr_cons, clr_nil, kst_0, kst_1, kstL_0, kstL_1, addk_I, pA_0, pA_s, pD_0, pD_s, wid_nil, wid_cons, rcv_c, putv_I, putv_L, List.length_cons, List.length_nil, List.set_cons_zero, List.set_cons_succ, not_false_eq_true, Nat.reduceMod, Nat.reduceDiv, Nat.reduceEqDiff, Nat.reduceLT, Nat.reduceLeDiff, Nat.reduceAdd, Nat.reduceSub, reduceIte, Nat.lt_irrefl, Nat.zero_ne_one, Nat.one_ne_zero, Nat.zero_add, List.nil_append, List.cons_append, Option.toList_some, Option.toList_none, forall_const, false_implies, true_implies, false_or, or_false, true_or, or_true, i_le, i_lt, i_eq, i_eq0, i_lt0, i_0le, i_0lt, i_le0, i_in1, i_cl, nI_add, pk_mul, pk_sub, i_div, i_rem, i_sh1, i_bit, i_or, i_and, i_andn, nt_le, nf_le, nt_lt, nf_lt, nt_eq, nf_eq, not_true_eq_false, and_self, and_false, false_and, eq_self, Bool.toNat_true, Bool.toNat_false, i_bool, i_bool1, Bool.false_eq_true, Bool.true_eq_false, reduceCtorEq, i_neg1, i_neg2, i_neg3, i_neg4, i_neg5, i_neg6, i_neg7, i_neg8, i_neg9, i_nega, i_negb, i_negc, i_max2, i_min2, a, b])
      exact px key
  · obtain ⟨v, hv2, rfl⟩ := inb_nat hv
    rcases Nat.eq_zero_or_pos (Y 6 0) with e0 | e0
    · refine x_entry (ls2 := [aR 7 0, aI (nI v), aU, aU, aU, aU]) (Nat.le_of_ble_eq_true rfl) pl_8 rfl (Nat.le_of_ble_eq_true rfl) ?_
      try simp (disch := omega) only [no0, no1, nz1, nz2, nz3, nz4, nz5, nz7, nz8, Classical.not_not, bz0, bz1, wi_nil, ld_0, ld_s, isIv_I, isLv_L, isRv_R, true_and, and_true, lset_0, lset_1, lset_s, avw_I, avw_L, avw_R, clr_cons, clr_nil, kst_0, kst_1, kstL_0, kstL_1, addk_I, pA_0, pA_s, pD_0, pD_s, wid_nil, wid_cons, rcv_c, putv_I, putv_L, List.length_cons, List.length_nil, List.set_cons_zero, List.set_cons_succ, not_false_eq_true, Nat.reduceMod, Nat.reduceDiv, Nat.reduceEqDiff, Nat.reduceLT, Nat.reduceLeDiff, Nat.reduceAdd, Nat.reduceSub, reduceIte, Nat.lt_irrefl, Nat.zero_ne_one, Nat.one_ne_zero, Nat.zero_add, List.nil_append, List.cons_append, Option.toList_some, Option.toList_none, forall_const, false_implies, true_implies, false_or, or_false, true_or, or_true, i_le, i_lt, i_eq, i_eq0, i_lt0, i_0le, i_0lt, i_le0, i_in1, i_cl, nI_add, pk_mul, pk_sub, i_div, i_rem, i_sh1, i_bit, i_or, i_and, i_andn, nt_le, nf_le, nt_lt, nf_lt, nt_eq, nf_eq, not_true_eq_false, and_self, and_false, false_and, eq_self, Bool.toNat_true, Bool.toNat_false, i_bool, i_bool1, Bool.false_eq_true, Bool.true_eq_false, reduceCtorEq, i_neg1, i_neg2, i_neg3, i_neg4, i_neg5, i_neg6, i_neg7, i_neg8, i_neg9, i_nega, i_negb, i_negc, i_max2, i_min2, (y_n hy), wi_nil]
      repeat (
        first
        | refine s_X8_spare_0 ?_
        | refine s_X8_spare_9 ?_
        | refine s_X8_spare_11 ?_
        | refine s_X8_spare_24 ?_
        | refine s_X8_spare_31 ?_
        | refine s_X8_spare_62 ?_
        | refine s_X8_spare_75 ?_
        | refine s_X8_spare_92 ?_
        | refine s_X8_spare_94 ?_
        | refine s_X8_spare_100 ?_
        | refine s_X8_spare_112 ?_
        simp (disch := omega) only [B_X8_spare_0, wi_iload_n, wi_if_lt, wi_iconst, wi_icmp_le, B_X8_spare_9, wi_ireturn, B_X8_spare_11, wi_aload_n, wi_getfield, fldv_7_3, fds_7_3, cnt_7, fldv_6_7, fds_6_7, cnt_6, wi_if_ne, wi_bipush, B_X8_spare_24, wi_invokevirtual, B_X8_spare_31, wi_istore_n, wi_istore, B_X8_spare_41, wi_iload, wi_icmp_ge, wi_ixor, wi_iand, wi_invokestatic, B_X8_spare_62, wi_icmp_ne, B_X8_spare_75, B_X8_spare_92, B_X8_spare_94, wi_iinc, wi_goto, B_X8_spare_100, wi_icmp_eq, wi_putfield, pOk_7_11, B_X8_spare_112, no0, no1, nz1, nz2, nz3, nz4, nz5, nz7, nz8, Classical.not_not, bz0, bz1, wi_nil, ld_0, ld_s, isIv_I, isLv_L, isRv_R, true_and, and_true, lset_0, lset_1, lset_s, avw_I, avw_L, avw_R, clr_cons, clr_nil, kst_0, kst_1, kstL_0, kstL_1, addk_I, pA_0, pA_s, pD_0, pD_s, wid_nil, wid_cons, rcv_c, putv_I, putv_L, List.length_cons, List.length_nil, List.set_cons_zero, List.set_cons_succ, not_false_eq_true, Nat.reduceMod, Nat.reduceDiv, Nat.reduceEqDiff, Nat.reduceLT, Nat.reduceLeDiff, Nat.reduceAdd, Nat.reduceSub, reduceIte, Nat.lt_irrefl, Nat.zero_ne_one, Nat.one_ne_zero, Nat.zero_add, List.nil_append, List.cons_append, Option.toList_some, Option.toList_none, forall_const, false_implies, true_implies, false_or, or_false, true_or, or_true, i_le, i_lt, i_eq, i_eq0, i_lt0, i_0le, i_0lt, i_le0, i_in1, i_cl, nI_add, pk_mul, pk_sub, i_div, i_rem, i_sh1, i_bit, i_or, i_and, i_andn, nt_le, nf_le, nt_lt, nf_lt, nt_eq, nf_eq, not_true_eq_false, and_self, and_false, false_and, eq_self, Bool.toNat_true, Bool.toNat_false, i_bool, i_bool1, Bool.false_eq_true, Bool.true_eq_false, reduceCtorEq, i_neg1, i_neg2, i_neg3, i_neg4, i_neg5, i_neg6, i_neg7, i_neg8, i_neg9, i_nega, i_negb, i_negc, i_max2, i_min2, (y_n hy)])
      refine px ?_
      refine x_entry (ls2 := [aR 8 0, aI (nI v), aU, aU, aU, aU]) (Nat.le_of_ble_eq_true rfl) pl_9 rfl (Nat.le_of_ble_eq_true rfl) ?_
      try simp (disch := omega) only [no0, no1, nz1, nz2, nz3, nz4, nz5, nz7, nz8, Classical.not_not, bz0, bz1, wi_nil, ld_0, ld_s, isIv_I, isLv_L, isRv_R, true_and, and_true, lset_0, lset_1, lset_s, avw_I, avw_L, avw_R, clr_cons, clr_nil, kst_0, kst_1, kstL_0, kstL_1, addk_I, pA_0, pA_s, pD_0, pD_s, wid_nil, wid_cons, rcv_c, putv_I, putv_L, List.length_cons, List.length_nil, List.set_cons_zero, List.set_cons_succ, not_false_eq_true, Nat.reduceMod, Nat.reduceDiv, Nat.reduceEqDiff, Nat.reduceLT, Nat.reduceLeDiff, Nat.reduceAdd, Nat.reduceSub, reduceIte, Nat.lt_irrefl, Nat.zero_ne_one, Nat.one_ne_zero, Nat.zero_add, List.nil_append, List.cons_append, Option.toList_some, Option.toList_none, forall_const, false_implies, true_implies, false_or, or_false, true_or, or_true, i_le, i_lt, i_eq, i_eq0, i_lt0, i_0le, i_0lt, i_le0, i_in1, i_cl, nI_add, pk_mul, pk_sub, i_div, i_rem, i_sh1, i_bit, i_or, i_and, i_andn, nt_le, nf_le, nt_lt, nf_lt, nt_eq, nf_eq, not_true_eq_false, and_self, and_false, false_and, eq_self, Bool.toNat_true, Bool.toNat_false, i_bool, i_bool1, Bool.false_eq_true, Bool.true_eq_false, reduceCtorEq, i_neg1, i_neg2, i_neg3, i_neg4, i_neg5, i_neg6, i_neg7, i_neg8, i_neg9, i_nega, i_negb, i_negc, i_max2, i_min2, wi_nil]
      repeat (
        first
        | refine s_X9_spare_0 ?_
        | refine s_X9_spare_7 ?_
        | refine s_X9_spare_10 ?_
        | refine s_X9_spare_17 ?_
        | refine s_X9_spare_39 ?_
        | refine s_X9_spare_59 ?_
        | refine s_X9_spare_60 ?_
        | refine s_X9_spare_79 ?_
        | refine s_X9_spare_84 ?_
        | refine s_X9_spare_87 ?_
        | refine s_X9_spare_92 ?_
        | refine s_X9_spare_93 ?_
        | refine s_X9_spare_100 ?_
        | refine s_X9_spare_111 ?_
        | refine s_X9_spare_117 ?_
        | refine s_X9_spare_121 ?_
        simp (disch := omega) only [B_X9_spare_0, wi_aload_n, wi_iload_n, wi_iconst, wi_invokestatic, B_X9_spare_7, wi_invokevirtual, cnt_8, B_X9_spare_10, wi_istore_n, wi_if_ge, wi_ireturn, B_X9_spare_17, wi_bipush, wi_istore, B_X9_spare_23, wi_iload, wi_getfield, fldv_8_10, fds_8_10, wi_ishl, wi_icmp_ge, B_X9_spare_39, wi_icmp_ne, fldv_8_20, fds_8_20, wi_iaload, wi_iand, wi_if_ne, wi_goto, cnt_40, aTy_40, aLn_40, arr_40, B_X9_spare_59, B_X9_spare_60, wi_if_eq, wi_icmp_eq, B_X9_spare_79, B_X9_spare_84, wi_icmp_le, B_X9_spare_87, B_X9_spare_92, B_X9_spare_93, wi_iinc, B_X9_spare_100, B_X9_spare_111, B_X9_spare_117, B_X9_spare_121, no0, no1, nz1, nz2, nz3, nz4, nz5, nz7, nz8, Classical.not_not, bz0, bz1, wi_nil, ld_0, ld_s, isIv_I, isLv_L, isRv_R, true_and, and_true, lset_0, lset_1, lset_s, avw_I, avw_L, avw_R, clr_cons, clr_nil, kst_0, kst_1, kstL_0, kstL_1, addk_I, pA_0, pA_s, pD_0, pD_s, wid_nil, wid_cons, rcv_c, putv_I, putv_L, List.length_cons, List.length_nil, List.set_cons_zero, List.set_cons_succ, not_false_eq_true, Nat.reduceMod, Nat.reduceDiv, Nat.reduceEqDiff, Nat.reduceLT, Nat.reduceLeDiff, Nat.reduceAdd, Nat.reduceSub, reduceIte, Nat.lt_irrefl, Nat.zero_ne_one, Nat.one_ne_zero, Nat.zero_add, List.nil_append, List.cons_append, Option.toList_some, Option.toList_none, forall_const, false_implies, true_implies, false_or, or_false, true_or, or_true, i_le, i_lt, i_eq, i_eq0, i_lt0, i_0le, i_0lt, i_le0, i_in1, i_cl, nI_add, pk_mul, pk_sub, i_div, i_rem, i_sh1, i_bit, i_or, i_and, i_andn, nt_le, nf_le, nt_lt, nf_lt, nt_eq, nf_eq, not_true_eq_false, and_self, and_false, false_and, eq_self, Bool.toNat_true, Bool.toNat_false, i_bool, i_bool1, Bool.false_eq_true, Bool.true_eq_false, reduceCtorEq, i_neg1, i_neg2, i_neg3, i_neg4, i_neg5, i_neg6, i_neg7, i_neg8, i_neg9, i_nega, i_negb, i_negc, i_max2, i_min2])
      refine c_in (inb_le (N := 5) (by decide)) ?_
      try simp (disch := omega) only [no0, no1, nz1, nz2, nz3, nz4, nz5, nz7, nz8, Classical.not_not, bz0, bz1, wi_nil, ld_0, ld_s, isIv_I, isLv_L, isRv_R, true_and, and_true, lset_0, lset_1, lset_s, avw_I, avw_L, avw_R, clr_cons, clr_nil, kst_0, kst_1, kstL_0, kstL_1, addk_I, pA_0, pA_s, pD_0, pD_s, wid_nil, wid_cons, rcv_c, putv_I, putv_L, List.length_cons, List.length_nil, List.set_cons_zero, List.set_cons_succ, not_false_eq_true, Nat.reduceMod, Nat.reduceDiv, Nat.reduceEqDiff, Nat.reduceLT, Nat.reduceLeDiff, Nat.reduceAdd, Nat.reduceSub, reduceIte, Nat.lt_irrefl, Nat.zero_ne_one, Nat.one_ne_zero, Nat.zero_add, List.nil_append, List.cons_append, Option.toList_some, Option.toList_none, forall_const, false_implies, true_implies, false_or, or_false, true_or, or_true, i_le, i_lt, i_eq, i_eq0, i_lt0, i_0le, i_0lt, i_le0, i_in1, i_cl, nI_add, pk_mul, pk_sub, i_div, i_rem, i_sh1, i_bit, i_or, i_and, i_andn, nt_le, nf_le, nt_lt, nf_lt, nt_eq, nf_eq, not_true_eq_false, and_self, and_false, false_and, eq_self, Bool.toNat_true, Bool.toNat_false, i_bool, i_bool1, Bool.false_eq_true, Bool.true_eq_false, reduceCtorEq, i_neg1, i_neg2, i_neg3, i_neg4, i_neg5, i_neg6, i_neg7, i_neg8, i_neg9, i_nega, i_negb, i_negc, i_max2, i_min2, hv, wi_nil]
      repeat (
        first
        | refine s_X9_spare_0 ?_
        | refine s_X9_spare_7 ?_
        | refine s_X9_spare_10 ?_
        | refine s_X9_spare_17 ?_
        | refine s_X9_spare_39 ?_
        | refine s_X9_spare_59 ?_
        | refine s_X9_spare_60 ?_
        | refine s_X9_spare_79 ?_
        | refine s_X9_spare_84 ?_
        | refine s_X9_spare_87 ?_
        | refine s_X9_spare_92 ?_
        | refine s_X9_spare_93 ?_
        | refine s_X9_spare_100 ?_
        | refine s_X9_spare_111 ?_
        | refine s_X9_spare_117 ?_
        | refine s_X9_spare_121 ?_
        simp (disch := omega) only [B_X9_spare_0, wi_aload_n, wi_iload_n, wi_iconst, wi_invokestatic, B_X9_spare_7, wi_invokevirtual, cnt_8, B_X9_spare_10, wi_istore_n, wi_if_ge, wi_ireturn, B_X9_spare_17, wi_bipush, wi_istore, B_X9_spare_23, wi_iload, wi_getfield, fldv_8_10, fds_8_10, wi_ishl, wi_icmp_ge, B_X9_spare_39, wi_icmp_ne, fldv_8_20, fds_8_20, wi_iaload, wi_iand, wi_if_ne, wi_goto, cnt_40, aTy_40, aLn_40, arr_40, B_X9_spare_59, B_X9_spare_60, wi_if_eq, wi_icmp_eq, B_X9_spare_79, B_X9_spare_84, wi_icmp_le, B_X9_spare_87, B_X9_spare_92, B_X9_spare_93, wi_iinc, B_X9_spare_100, B_X9_spare_111, B_X9_spare_117, B_X9_spare_121, no0, no1, nz1, nz2, nz3, nz4, nz5, nz7, nz8, Classical.not_not, bz0, bz1, wi_nil, ld_0, ld_s, isIv_I, isLv_L, isRv_R, true_and, and_true, lset_0, lset_1, lset_s, avw_I, avw_L, avw_R, clr_cons, clr_nil, kst_0, kst_1, kstL_0, kstL_1, addk_I, pA_0, pA_s, pD_0, pD_s, wid_nil, wid_cons, rcv_c, putv_I, putv_L, List.length_cons, List.length_nil, List.set_cons_zero, List.set_cons_succ, not_false_eq_true, Nat.reduceMod, Nat.reduceDiv, Nat.reduceEqDiff, Nat.reduceLT, Nat.reduceLeDiff, Nat.reduceAdd, Nat.reduceSub, reduceIte, Nat.lt_irrefl, Nat.zero_ne_one, Nat.one_ne_zero, Nat.zero_add, List.nil_append, List.cons_append, Option.toList_some, Option.toList_none, forall_const, false_implies, true_implies, false_or, or_false, true_or, or_true, i_le, i_lt, i_eq, i_eq0, i_lt0, i_0le, i_0lt, i_le0, i_in1, i_cl, nI_add, pk_mul, pk_sub, i_div, i_rem, i_sh1, i_bit, i_or, i_and, i_andn, nt_le, nf_le, nt_lt, nf_lt, nt_eq, nf_eq, not_true_eq_false, and_self, and_false, false_and, eq_self, Bool.toNat_true, Bool.toNat_false, i_bool, i_bool1, Bool.false_eq_true, Bool.true_eq_false, reduceCtorEq, i_neg1, i_neg2, i_neg3, i_neg4, i_neg5, i_neg6, i_neg7, i_neg8, i_neg9, i_nega, i_negb, i_negc, i_max2, i_min2, hv])
      refine c_needS hm e0 ?_
      try simp (disch := omega) only [no0, no1, nz1, nz2, nz3, nz4, nz5, nz7, nz8, Classical.not_not, bz0, bz1, wi_nil, ld_0, ld_s, isIv_I, isLv_L, isRv_R, true_and, and_true, lset_0, lset_1, lset_s, avw_I, avw_L, avw_R, clr_cons, clr_nil, kst_0, kst_1, kstL_0, kstL_1, addk_I, pA_0, pA_s, pD_0, pD_s, wid_nil, wid_cons, rcv_c, putv_I, putv_L, List.length_cons, List.length_nil, List.set_cons_zero, List.set_cons_succ, not_false_eq_true, Nat.reduceMod, Nat.reduceDiv, Nat.reduceEqDiff, Nat.reduceLT, Nat.reduceLeDiff, Nat.reduceAdd, Nat.reduceSub, reduceIte, Nat.lt_irrefl, Nat.zero_ne_one, Nat.one_ne_zero, Nat.zero_add, List.nil_append, List.cons_append, Option.toList_some, Option.toList_none, forall_const, false_implies, true_implies, false_or, or_false, true_or, or_true, i_le, i_lt, i_eq, i_eq0, i_lt0, i_0le, i_0lt, i_le0, i_in1, i_cl, nI_add, pk_mul, pk_sub, i_div, i_rem, i_sh1, i_bit, i_or, i_and, i_andn, nt_le, nf_le, nt_lt, nf_lt, nt_eq, nf_eq, not_true_eq_false, and_self, and_false, false_and, eq_self, Bool.toNat_true, Bool.toNat_false, i_bool, i_bool1, Bool.false_eq_true, Bool.true_eq_false, reduceCtorEq, i_neg1, i_neg2, i_neg3, i_neg4, i_neg5, i_neg6, i_neg7, i_neg8, i_neg9, i_nega, i_negb, i_negc, i_max2, i_min2, wi_nil]
      repeat (
        first
        | refine s_X9_spare_0 ?_
        | refine s_X9_spare_7 ?_
        | refine s_X9_spare_10 ?_
        | refine s_X9_spare_17 ?_
        | refine s_X9_spare_39 ?_
        | refine s_X9_spare_59 ?_
        | refine s_X9_spare_60 ?_
        | refine s_X9_spare_79 ?_
        | refine s_X9_spare_84 ?_
        | refine s_X9_spare_87 ?_
        | refine s_X9_spare_92 ?_
        | refine s_X9_spare_93 ?_
        | refine s_X9_spare_100 ?_
        | refine s_X9_spare_111 ?_
        | refine s_X9_spare_117 ?_
        | refine s_X9_spare_121 ?_
        simp (disch := omega) only [B_X9_spare_0, wi_aload_n, wi_iload_n, wi_iconst, wi_invokestatic, B_X9_spare_7, wi_invokevirtual, cnt_8, B_X9_spare_10, wi_istore_n, wi_if_ge, wi_ireturn, B_X9_spare_17, wi_bipush, wi_istore, B_X9_spare_23, wi_iload, wi_getfield, fldv_8_10, fds_8_10, wi_ishl, wi_icmp_ge, B_X9_spare_39, wi_icmp_ne, fldv_8_20, fds_8_20, wi_iaload, wi_iand, wi_if_ne, wi_goto, cnt_40, aTy_40, aLn_40, arr_40, B_X9_spare_59, B_X9_spare_60, wi_if_eq, wi_icmp_eq, B_X9_spare_79, B_X9_spare_84, wi_icmp_le, B_X9_spare_87, B_X9_spare_92, B_X9_spare_93, wi_iinc, B_X9_spare_100, B_X9_spare_111, B_X9_spare_117, B_X9_spare_121, no0, no1, nz1, nz2, nz3, nz4, nz5, nz7, nz8, Classical.not_not, bz0, bz1, wi_nil, ld_0, ld_s, isIv_I, isLv_L, isRv_R, true_and, and_true, lset_0, lset_1, lset_s, avw_I, avw_L, avw_R, clr_cons, clr_nil, kst_0, kst_1, kstL_0, kstL_1, addk_I, pA_0, pA_s, pD_0, pD_s, wid_nil, wid_cons, rcv_c, putv_I, putv_L, List.length_cons, List.length_nil, List.set_cons_zero, List.set_cons_succ, not_false_eq_true, Nat.reduceMod, Nat.reduceDiv, Nat.reduceEqDiff, Nat.reduceLT, Nat.reduceLeDiff, Nat.reduceAdd, Nat.reduceSub, reduceIte, Nat.lt_irrefl, Nat.zero_ne_one, Nat.one_ne_zero, Nat.zero_add, List.nil_append, List.cons_append, Option.toList_some, Option.toList_none, forall_const, false_implies, true_implies, false_or, or_false, true_or, or_true, i_le, i_lt, i_eq, i_eq0, i_lt0, i_0le, i_0lt, i_le0, i_in1, i_cl, nI_add, pk_mul, pk_sub, i_div, i_rem, i_sh1, i_bit, i_or, i_and, i_andn, nt_le, nf_le, nt_lt, nf_lt, nt_eq, nf_eq, not_true_eq_false, and_self, and_false, false_and, eq_self, Bool.toNat_true, Bool.toNat_false, i_bool, i_bool1, Bool.false_eq_true, Bool.true_eq_false, reduceCtorEq, i_neg1, i_neg2, i_neg3, i_neg4, i_neg5, i_neg6, i_neg7, i_neg8, i_neg9, i_nega, i_negb, i_negc, i_max2, i_min2])
      exact pm h
    · have hst := sps_stop hok (n := v) (32 - 2 ^ Y 6 0) (by omega)
      rw [show 2 ^ Y 6 0 + (32 - 2 ^ Y 6 0) = 32 by omega] at hst
      refine x_entry (ls2 := [aR 7 0, aI (nI v), aU, aU, aU, aU]) (Nat.le_of_ble_eq_true rfl) pl_8 rfl (Nat.le_of_ble_eq_true rfl) ?_
      try simp (disch := omega) only [no0, no1, nz1, nz2, nz3, nz4, nz5, nz7, nz8, Classical.not_not, bz0, bz1, wi_nil, ld_0, ld_s, isIv_I, isLv_L, isRv_R, true_and, and_true, lset_0, lset_1, lset_s, avw_I, avw_L, avw_R, clr_cons, clr_nil, kst_0, kst_1, kstL_0, kstL_1, addk_I, pA_0, pA_s, pD_0, pD_s, wid_nil, wid_cons, rcv_c, putv_I, putv_L, List.length_cons, List.length_nil, List.set_cons_zero, List.set_cons_succ, not_false_eq_true, Nat.reduceMod, Nat.reduceDiv, Nat.reduceEqDiff, Nat.reduceLT, Nat.reduceLeDiff, Nat.reduceAdd, Nat.reduceSub, reduceIte, Nat.lt_irrefl, Nat.zero_ne_one, Nat.one_ne_zero, Nat.zero_add, List.nil_append, List.cons_append, Option.toList_some, Option.toList_none, forall_const, false_implies, true_implies, false_or, or_false, true_or, or_true, i_le, i_lt, i_eq, i_eq0, i_lt0, i_0le, i_0lt, i_le0, i_in1, i_cl, nI_add, pk_mul, pk_sub, i_div, i_rem, i_sh1, i_bit, i_or, i_and, i_andn, nt_le, nf_le, nt_lt, nf_lt, nt_eq, nf_eq, not_true_eq_false, and_self, and_false, false_and, eq_self, Bool.toNat_true, Bool.toNat_false, i_bool, i_bool1, Bool.false_eq_true, Bool.true_eq_false, reduceCtorEq, i_neg1, i_neg2, i_neg3, i_neg4, i_neg5, i_neg6, i_neg7, i_neg8, i_neg9, i_nega, i_negb, i_negc, i_max2, i_min2, (y_n hy), wi_nil]
      repeat (
        first
        | refine s_X8_spare_0 ?_
        | refine s_X8_spare_9 ?_
        | refine s_X8_spare_11 ?_
        | refine s_X8_spare_24 ?_
        | refine s_X8_spare_31 ?_
        | refine s_X8_spare_62 ?_
        | refine s_X8_spare_75 ?_
        | refine s_X8_spare_92 ?_
        | refine s_X8_spare_94 ?_
        | refine s_X8_spare_100 ?_
        | refine s_X8_spare_112 ?_
        simp (disch := omega) only [B_X8_spare_0, wi_iload_n, wi_if_lt, wi_iconst, wi_icmp_le, B_X8_spare_9, wi_ireturn, B_X8_spare_11, wi_aload_n, wi_getfield, fldv_7_3, fds_7_3, cnt_7, fldv_6_7, fds_6_7, cnt_6, wi_if_ne, wi_bipush, B_X8_spare_24, wi_invokevirtual, B_X8_spare_31, wi_istore_n, wi_istore, B_X8_spare_41, wi_iload, wi_icmp_ge, wi_ixor, wi_iand, wi_invokestatic, B_X8_spare_62, wi_icmp_ne, B_X8_spare_75, B_X8_spare_92, B_X8_spare_94, wi_iinc, wi_goto, B_X8_spare_100, wi_icmp_eq, wi_putfield, pOk_7_11, B_X8_spare_112, no0, no1, nz1, nz2, nz3, nz4, nz5, nz7, nz8, Classical.not_not, bz0, bz1, wi_nil, ld_0, ld_s, isIv_I, isLv_L, isRv_R, true_and, and_true, lset_0, lset_1, lset_s, avw_I, avw_L, avw_R, clr_cons, clr_nil, kst_0, kst_1, kstL_0, kstL_1, addk_I, pA_0, pA_s, pD_0, pD_s, wid_nil, wid_cons, rcv_c, putv_I, putv_L, List.length_cons, List.length_nil, List.set_cons_zero, List.set_cons_succ, not_false_eq_true, Nat.reduceMod, Nat.reduceDiv, Nat.reduceEqDiff, Nat.reduceLT, Nat.reduceLeDiff, Nat.reduceAdd, Nat.reduceSub, reduceIte, Nat.lt_irrefl, Nat.zero_ne_one, Nat.one_ne_zero, Nat.zero_add, List.nil_append, List.cons_append, Option.toList_some, Option.toList_none, forall_const, false_implies, true_implies, false_or, or_false, true_or, or_true, i_le, i_lt, i_eq, i_eq0, i_lt0, i_0le, i_0lt, i_le0, i_in1, i_cl, nI_add, pk_mul, pk_sub, i_div, i_rem, i_sh1, i_bit, i_or, i_and, i_andn, nt_le, nf_le, nt_lt, nf_lt, nt_eq, nf_eq, not_true_eq_false, and_self, and_false, false_and, eq_self, Bool.toNat_true, Bool.toNat_false, i_bool, i_bool1, Bool.false_eq_true, Bool.true_eq_false, reduceCtorEq, i_neg1, i_neg2, i_neg3, i_neg4, i_neg5, i_neg6, i_neg7, i_neg8, i_neg9, i_nega, i_negb, i_negc, i_max2, i_min2, (y_n hy)])
      refine c_open (by decide) hy hok ?_
      try simp (disch := omega) only [no0, no1, nz1, nz2, nz3, nz4, nz5, nz7, nz8, Classical.not_not, bz0, bz1, wi_nil, ld_0, ld_s, isIv_I, isLv_L, isRv_R, true_and, and_true, lset_0, lset_1, lset_s, avw_I, avw_L, avw_R, clr_cons, clr_nil, kst_0, kst_1, kstL_0, kstL_1, addk_I, pA_0, pA_s, pD_0, pD_s, wid_nil, wid_cons, rcv_c, putv_I, putv_L, List.length_cons, List.length_nil, List.set_cons_zero, List.set_cons_succ, not_false_eq_true, Nat.reduceMod, Nat.reduceDiv, Nat.reduceEqDiff, Nat.reduceLT, Nat.reduceLeDiff, Nat.reduceAdd, Nat.reduceSub, reduceIte, Nat.lt_irrefl, Nat.zero_ne_one, Nat.one_ne_zero, Nat.zero_add, List.nil_append, List.cons_append, Option.toList_some, Option.toList_none, forall_const, false_implies, true_implies, false_or, or_false, true_or, or_true, i_le, i_lt, i_eq, i_eq0, i_lt0, i_0le, i_0lt, i_le0, i_in1, i_cl, nI_add, pk_mul, pk_sub, i_div, i_rem, i_sh1, i_bit, i_or, i_and, i_andn, nt_le, nf_le, nt_lt, nf_lt, nt_eq, nf_eq, not_true_eq_false, and_self, and_false, false_and, eq_self, Bool.toNat_true, Bool.toNat_false, i_bool, i_bool1, Bool.false_eq_true, Bool.true_eq_false, reduceCtorEq, i_neg1, i_neg2, i_neg3, i_neg4, i_neg5, i_neg6, i_neg7, i_neg8, i_neg9, i_nega, i_negb, i_negc, i_max2, i_min2, wi_nil]
      repeat (
        first
        | refine s_X8_spare_0 ?_
        | refine s_X8_spare_9 ?_
        | refine s_X8_spare_11 ?_
        | refine s_X8_spare_24 ?_
        | refine s_X8_spare_31 ?_
        | refine s_X8_spare_62 ?_
        | refine s_X8_spare_75 ?_
        | refine s_X8_spare_92 ?_
        | refine s_X8_spare_94 ?_
        | refine s_X8_spare_100 ?_
        | refine s_X8_spare_112 ?_
        simp (disch := omega) only [B_X8_spare_0, wi_iload_n, wi_if_lt, wi_iconst, wi_icmp_le, B_X8_spare_9, wi_ireturn, B_X8_spare_11, wi_aload_n, wi_getfield, fldv_7_3, fds_7_3, cnt_7, fldv_6_7, fds_6_7, cnt_6, wi_if_ne, wi_bipush, B_X8_spare_24, wi_invokevirtual, B_X8_spare_31, wi_istore_n, wi_istore, B_X8_spare_41, wi_iload, wi_icmp_ge, wi_ixor, wi_iand, wi_invokestatic, B_X8_spare_62, wi_icmp_ne, B_X8_spare_75, B_X8_spare_92, B_X8_spare_94, wi_iinc, wi_goto, B_X8_spare_100, wi_icmp_eq, wi_putfield, pOk_7_11, B_X8_spare_112, no0, no1, nz1, nz2, nz3, nz4, nz5, nz7, nz8, Classical.not_not, bz0, bz1, wi_nil, ld_0, ld_s, isIv_I, isLv_L, isRv_R, true_and, and_true, lset_0, lset_1, lset_s, avw_I, avw_L, avw_R, clr_cons, clr_nil, kst_0, kst_1, kstL_0, kstL_1, addk_I, pA_0, pA_s, pD_0, pD_s, wid_nil, wid_cons, rcv_c, putv_I, putv_L, List.length_cons, List.length_nil, List.set_cons_zero, List.set_cons_succ, not_false_eq_true, Nat.reduceMod, Nat.reduceDiv, Nat.reduceEqDiff, Nat.reduceLT, Nat.reduceLeDiff, Nat.reduceAdd, Nat.reduceSub, reduceIte, Nat.lt_irrefl, Nat.zero_ne_one, Nat.one_ne_zero, Nat.zero_add, List.nil_append, List.cons_append, Option.toList_some, Option.toList_none, forall_const, false_implies, true_implies, false_or, or_false, true_or, or_true, i_le, i_lt, i_eq, i_eq0, i_lt0, i_0le, i_0lt, i_le0, i_in1, i_cl, nI_add, pk_mul, pk_sub, i_div, i_rem, i_sh1, i_bit, i_or, i_and, i_andn, nt_le, nf_le, nt_lt, nf_lt, nt_eq, nf_eq, not_true_eq_false, and_self, and_false, false_and, eq_self, Bool.toNat_true, Bool.toNat_false, i_bool, i_bool1, Bool.false_eq_true, Bool.true_eq_false, reduceCtorEq, i_neg1, i_neg2, i_neg3, i_neg4, i_neg5, i_neg6, i_neg7, i_neg8, i_neg9, i_nega, i_negb, i_negc, i_max2, i_min2])
      refine l_xspare (by omega) hy hok ?_ 32 0 rfl
      cases hR : sps Y v 32 with
      | none =>
        try simp (disch := omega) only [no0, no1, nz1, nz2, nz3, nz4, nz5, nz7, nz8, Classical.not_not, bz0, bz1, wi_nil, ld_0, ld_s, isIv_I, isLv_L, isRv_R, true_and, and_true, lset_0, lset_1, lset_s, avw_I, avw_L, avw_R, clr_cons, clr_nil, kst_0, kst_1, kstL_0, kstL_1, addk_I, pA_0, pA_s, pD_0, pD_s, wid_nil, wid_cons, rcv_c, putv_I, putv_L, List.length_cons, List.length_nil, List.set_cons_zero, List.set_cons_succ, not_false_eq_true, Nat.reduceMod, Nat.reduceDiv, Nat.reduceEqDiff, Nat.reduceLT, Nat.reduceLeDiff, Nat.reduceAdd, Nat.reduceSub, reduceIte, Nat.lt_irrefl, Nat.zero_ne_one, Nat.one_ne_zero, Nat.zero_add, List.nil_append, List.cons_append, Option.toList_some, Option.toList_none, forall_const, false_implies, true_implies, false_or, or_false, true_or, or_true, i_le, i_lt, i_eq, i_eq0, i_lt0, i_0le, i_0lt, i_le0, i_in1, i_cl, nI_add, pk_mul, pk_sub, i_div, i_rem, i_sh1, i_bit, i_or, i_and, i_andn, nt_le, nf_le, nt_lt, nf_lt, nt_eq, nf_eq, not_true_eq_false, and_self, and_false, false_and, eq_self, Bool.toNat_true, Bool.toNat_false, i_bool, i_bool1, Bool.false_eq_true, Bool.true_eq_false, reduceCtorEq, i_neg1, i_neg2, i_neg3, i_neg4, i_neg5, i_neg6, i_neg7, i_neg8, i_neg9, i_nega, i_negb, i_negc, i_max2, i_min2, wrI, wi_nil]
        repeat (
          first
          | refine s_X8_spare_0 ?_
          | refine s_X8_spare_9 ?_
          | refine s_X8_spare_11 ?_
          | refine s_X8_spare_24 ?_
          | refine s_X8_spare_31 ?_
          | refine s_X8_spare_62 ?_
          | refine s_X8_spare_75 ?_
          | refine s_X8_spare_92 ?_
          | refine s_X8_spare_94 ?_
          | refine s_X8_spare_100 ?_
          | refine s_X8_spare_112 ?_
          simp (disch := omega) only [B_X8_spare_0, wi_iload_n, wi_if_lt, wi_iconst, wi_icmp_le, B_X8_spare_9, wi_ireturn, B_X8_spare_11, wi_aload_n, wi_getfield, fldv_7_3, fds_7_3, cnt_7, fldv_6_7, fds_6_7, cnt_6, wi_if_ne, wi_bipush, B_X8_spare_24, wi_invokevirtual, B_X8_spare_31, wi_istore_n, wi_istore, B_X8_spare_41, wi_iload, wi_icmp_ge, wi_ixor, wi_iand, wi_invokestatic, B_X8_spare_62, wi_icmp_ne, B_X8_spare_75, B_X8_spare_92, B_X8_spare_94, wi_iinc, wi_goto, B_X8_spare_100, wi_icmp_eq, wi_putfield, pOk_7_11, B_X8_spare_112, no0, no1, nz1, nz2, nz3, nz4, nz5, nz7, nz8, Classical.not_not, bz0, bz1, wi_nil, ld_0, ld_s, isIv_I, isLv_L, isRv_R, true_and, and_true, lset_0, lset_1, lset_s, avw_I, avw_L, avw_R, clr_cons, clr_nil, kst_0, kst_1, kstL_0, kstL_1, addk_I, pA_0, pA_s, pD_0, pD_s, wid_nil, wid_cons, rcv_c, putv_I, putv_L, List.length_cons, List.length_nil, List.set_cons_zero, List.set_cons_succ, not_false_eq_true, Nat.reduceMod, Nat.reduceDiv, Nat.reduceEqDiff, Nat.reduceLT, Nat.reduceLeDiff, Nat.reduceAdd, Nat.reduceSub, reduceIte, Nat.lt_irrefl, Nat.zero_ne_one, Nat.one_ne_zero, Nat.zero_add, List.nil_append, List.cons_append, Option.toList_some, Option.toList_none, forall_const, false_implies, true_implies, false_or, or_false, true_or, or_true, i_le, i_lt, i_eq, i_eq0, i_lt0, i_0le, i_0lt, i_le0, i_in1, i_cl, nI_add, pk_mul, pk_sub, i_div, i_rem, i_sh1, i_bit, i_or, i_and, i_andn, nt_le, nf_le, nt_lt, nf_lt, nt_eq, nf_eq, not_true_eq_false, and_self, and_false, false_and, eq_self, Bool.toNat_true, Bool.toNat_false, i_bool, i_bool1, Bool.false_eq_true, Bool.true_eq_false, reduceCtorEq, i_neg1, i_neg2, i_neg3, i_neg4, i_neg5, i_neg6, i_neg7, i_neg8, i_neg9, i_nega, i_negb, i_negc, i_max2, i_min2, wrI])
        refine px ?_
        refine x_entry (ls2 := [aR 8 0, aI (nI v), aU, aU, aU, aU]) (Nat.le_of_ble_eq_true rfl) pl_9 rfl (Nat.le_of_ble_eq_true rfl) ?_
        try simp (disch := omega) only [no0, no1, nz1, nz2, nz3, nz4, nz5, nz7, nz8, Classical.not_not, bz0, bz1, wi_nil, ld_0, ld_s, isIv_I, isLv_L, isRv_R, true_and, and_true, lset_0, lset_1, lset_s, avw_I, avw_L, avw_R, clr_cons, clr_nil, kst_0, kst_1, kstL_0, kstL_1, addk_I, pA_0, pA_s, pD_0, pD_s, wid_nil, wid_cons, rcv_c, putv_I, putv_L, List.length_cons, List.length_nil, List.set_cons_zero, List.set_cons_succ, not_false_eq_true, Nat.reduceMod, Nat.reduceDiv, Nat.reduceEqDiff, Nat.reduceLT, Nat.reduceLeDiff, Nat.reduceAdd, Nat.reduceSub, reduceIte, Nat.lt_irrefl, Nat.zero_ne_one, Nat.one_ne_zero, Nat.zero_add, List.nil_append, List.cons_append, Option.toList_some, Option.toList_none, forall_const, false_implies, true_implies, false_or, or_false, true_or, or_true, i_le, i_lt, i_eq, i_eq0, i_lt0, i_0le, i_0lt, i_le0, i_in1, i_cl, nI_add, pk_mul, pk_sub, i_div, i_rem, i_sh1, i_bit, i_or, i_and, i_andn, nt_le, nf_le, nt_lt, nf_lt, nt_eq, nf_eq, not_true_eq_false, and_self, and_false, false_and, eq_self, Bool.toNat_true, Bool.toNat_false, i_bool, i_bool1, Bool.false_eq_true, Bool.true_eq_false, reduceCtorEq, i_neg1, i_neg2, i_neg3, i_neg4, i_neg5, i_neg6, i_neg7, i_neg8, i_neg9, i_nega, i_negb, i_negc, i_max2, i_min2, wi_nil]
        repeat (
          first
          | refine s_X9_spare_0 ?_
          | refine s_X9_spare_7 ?_
          | refine s_X9_spare_10 ?_
          | refine s_X9_spare_17 ?_
          | refine s_X9_spare_39 ?_
          | refine s_X9_spare_59 ?_
          | refine s_X9_spare_60 ?_
          | refine s_X9_spare_79 ?_
          | refine s_X9_spare_84 ?_
          | refine s_X9_spare_87 ?_
          | refine s_X9_spare_92 ?_
          | refine s_X9_spare_93 ?_
          | refine s_X9_spare_100 ?_
          | refine s_X9_spare_111 ?_
          | refine s_X9_spare_117 ?_
          | refine s_X9_spare_121 ?_
          simp (disch := omega) only [B_X9_spare_0, wi_aload_n, wi_iload_n, wi_iconst, wi_invokestatic, B_X9_spare_7, wi_invokevirtual, cnt_8, B_X9_spare_10, wi_istore_n, wi_if_ge, wi_ireturn, B_X9_spare_17, wi_bipush, wi_istore, B_X9_spare_23, wi_iload, wi_getfield, fldv_8_10, fds_8_10, wi_ishl, wi_icmp_ge, B_X9_spare_39, wi_icmp_ne, fldv_8_20, fds_8_20, wi_iaload, wi_iand, wi_if_ne, wi_goto, cnt_40, aTy_40, aLn_40, arr_40, B_X9_spare_59, B_X9_spare_60, wi_if_eq, wi_icmp_eq, B_X9_spare_79, B_X9_spare_84, wi_icmp_le, B_X9_spare_87, B_X9_spare_92, B_X9_spare_93, wi_iinc, B_X9_spare_100, B_X9_spare_111, B_X9_spare_117, B_X9_spare_121, no0, no1, nz1, nz2, nz3, nz4, nz5, nz7, nz8, Classical.not_not, bz0, bz1, wi_nil, ld_0, ld_s, isIv_I, isLv_L, isRv_R, true_and, and_true, lset_0, lset_1, lset_s, avw_I, avw_L, avw_R, clr_cons, clr_nil, kst_0, kst_1, kstL_0, kstL_1, addk_I, pA_0, pA_s, pD_0, pD_s, wid_nil, wid_cons, rcv_c, putv_I, putv_L, List.length_cons, List.length_nil, List.set_cons_zero, List.set_cons_succ, not_false_eq_true, Nat.reduceMod, Nat.reduceDiv, Nat.reduceEqDiff, Nat.reduceLT, Nat.reduceLeDiff, Nat.reduceAdd, Nat.reduceSub, reduceIte, Nat.lt_irrefl, Nat.zero_ne_one, Nat.one_ne_zero, Nat.zero_add, List.nil_append, List.cons_append, Option.toList_some, Option.toList_none, forall_const, false_implies, true_implies, false_or, or_false, true_or, or_true, i_le, i_lt, i_eq, i_eq0, i_lt0, i_0le, i_0lt, i_le0, i_in1, i_cl, nI_add, pk_mul, pk_sub, i_div, i_rem, i_sh1, i_bit, i_or, i_and, i_andn, nt_le, nf_le, nt_lt, nf_lt, nt_eq, nf_eq, not_true_eq_false, and_self, and_false, false_and, eq_self, Bool.toNat_true, Bool.toNat_false, i_bool, i_bool1, Bool.false_eq_true, Bool.true_eq_false, reduceCtorEq, i_neg1, i_neg2, i_neg3, i_neg4, i_neg5, i_neg6, i_neg7, i_neg8, i_neg9, i_nega, i_negb, i_negc, i_max2, i_min2])
        refine c_in (inb_le (N := 5) (by decide)) ?_
        try simp (disch := omega) only [no0, no1, nz1, nz2, nz3, nz4, nz5, nz7, nz8, Classical.not_not, bz0, bz1, wi_nil, ld_0, ld_s, isIv_I, isLv_L, isRv_R, true_and, and_true, lset_0, lset_1, lset_s, avw_I, avw_L, avw_R, clr_cons, clr_nil, kst_0, kst_1, kstL_0, kstL_1, addk_I, pA_0, pA_s, pD_0, pD_s, wid_nil, wid_cons, rcv_c, putv_I, putv_L, List.length_cons, List.length_nil, List.set_cons_zero, List.set_cons_succ, not_false_eq_true, Nat.reduceMod, Nat.reduceDiv, Nat.reduceEqDiff, Nat.reduceLT, Nat.reduceLeDiff, Nat.reduceAdd, Nat.reduceSub, reduceIte, Nat.lt_irrefl, Nat.zero_ne_one, Nat.one_ne_zero, Nat.zero_add, List.nil_append, List.cons_append, Option.toList_some, Option.toList_none, forall_const, false_implies, true_implies, false_or, or_false, true_or, or_true, i_le, i_lt, i_eq, i_eq0, i_lt0, i_0le, i_0lt, i_le0, i_in1, i_cl, nI_add, pk_mul, pk_sub, i_div, i_rem, i_sh1, i_bit, i_or, i_and, i_andn, nt_le, nf_le, nt_lt, nf_lt, nt_eq, nf_eq, not_true_eq_false, and_self, and_false, false_and, eq_self, Bool.toNat_true, Bool.toNat_false, i_bool, i_bool1, Bool.false_eq_true, Bool.true_eq_false, reduceCtorEq, i_neg1, i_neg2, i_neg3, i_neg4, i_neg5, i_neg6, i_neg7, i_neg8, i_neg9, i_nega, i_negb, i_negc, i_max2, i_min2, hv, wi_nil]
        repeat (
          first
          | refine s_X9_spare_0 ?_
          | refine s_X9_spare_7 ?_
          | refine s_X9_spare_10 ?_
          | refine s_X9_spare_17 ?_
          | refine s_X9_spare_39 ?_
          | refine s_X9_spare_59 ?_
          | refine s_X9_spare_60 ?_
          | refine s_X9_spare_79 ?_
          | refine s_X9_spare_84 ?_
          | refine s_X9_spare_87 ?_
          | refine s_X9_spare_92 ?_
          | refine s_X9_spare_93 ?_
          | refine s_X9_spare_100 ?_
          | refine s_X9_spare_111 ?_
          | refine s_X9_spare_117 ?_
          | refine s_X9_spare_121 ?_
          simp (disch := omega) only [B_X9_spare_0, wi_aload_n, wi_iload_n, wi_iconst, wi_invokestatic, B_X9_spare_7, wi_invokevirtual, cnt_8, B_X9_spare_10, wi_istore_n, wi_if_ge, wi_ireturn, B_X9_spare_17, wi_bipush, wi_istore, B_X9_spare_23, wi_iload, wi_getfield, fldv_8_10, fds_8_10, wi_ishl, wi_icmp_ge, B_X9_spare_39, wi_icmp_ne, fldv_8_20, fds_8_20, wi_iaload, wi_iand, wi_if_ne, wi_goto, cnt_40, aTy_40, aLn_40, arr_40, B_X9_spare_59, B_X9_spare_60, wi_if_eq, wi_icmp_eq, B_X9_spare_79, B_X9_spare_84, wi_icmp_le, B_X9_spare_87, B_X9_spare_92, B_X9_spare_93, wi_iinc, B_X9_spare_100, B_X9_spare_111, B_X9_spare_117, B_X9_spare_121, no0, no1, nz1, nz2, nz3, nz4, nz5, nz7, nz8, Classical.not_not, bz0, bz1, wi_nil, ld_0, ld_s, isIv_I, isLv_L, isRv_R, true_and, and_true, lset_0, lset_1, lset_s, avw_I, avw_L, avw_R, clr_cons, clr_nil, kst_0, kst_1, kstL_0, kstL_1, addk_I, pA_0, pA_s, pD_0, pD_s, wid_nil, wid_cons, rcv_c, putv_I, putv_L, List.length_cons, List.length_nil, List.set_cons_zero, List.set_cons_succ, not_false_eq_true, Nat.reduceMod, Nat.reduceDiv, Nat.reduceEqDiff, Nat.reduceLT, Nat.reduceLeDiff, Nat.reduceAdd, Nat.reduceSub, reduceIte, Nat.lt_irrefl, Nat.zero_ne_one, Nat.one_ne_zero, Nat.zero_add, List.nil_append, List.cons_append, Option.toList_some, Option.toList_none, forall_const, false_implies, true_implies, false_or, or_false, true_or, or_true, i_le, i_lt, i_eq, i_eq0, i_lt0, i_0le, i_0lt, i_le0, i_in1, i_cl, nI_add, pk_mul, pk_sub, i_div, i_rem, i_sh1, i_bit, i_or, i_and, i_andn, nt_le, nf_le, nt_lt, nf_lt, nt_eq, nf_eq, not_true_eq_false, and_self, and_false, false_and, eq_self, Bool.toNat_true, Bool.toNat_false, i_bool, i_bool1, Bool.false_eq_true, Bool.true_eq_false, reduceCtorEq, i_neg1, i_neg2, i_neg3, i_neg4, i_neg5, i_neg6, i_neg7, i_neg8, i_neg9, i_nega, i_negb, i_negc, i_max2, i_min2, hv])
        refine c_needK hm hn5 e0 ?_
        try simp (disch := omega) only [no0, no1, nz1, nz2, nz3, nz4, nz5, nz7, nz8, Classical.not_not, bz0, bz1, wi_nil, ld_0, ld_s, isIv_I, isLv_L, isRv_R, true_and, and_true, lset_0, lset_1, lset_s, avw_I, avw_L, avw_R, clr_cons, clr_nil, kst_0, kst_1, kstL_0, kstL_1, addk_I, pA_0, pA_s, pD_0, pD_s, wid_nil, wid_cons, rcv_c, putv_I, putv_L, List.length_cons, List.length_nil, List.set_cons_zero, List.set_cons_succ, not_false_eq_true, Nat.reduceMod, Nat.reduceDiv, Nat.reduceEqDiff, Nat.reduceLT, Nat.reduceLeDiff, Nat.reduceAdd, Nat.reduceSub, reduceIte, Nat.lt_irrefl, Nat.zero_ne_one, Nat.one_ne_zero, Nat.zero_add, List.nil_append, List.cons_append, Option.toList_some, Option.toList_none, forall_const, false_implies, true_implies, false_or, or_false, true_or, or_true, i_le, i_lt, i_eq, i_eq0, i_lt0, i_0le, i_0lt, i_le0, i_in1, i_cl, nI_add, pk_mul, pk_sub, i_div, i_rem, i_sh1, i_bit, i_or, i_and, i_andn, nt_le, nf_le, nt_lt, nf_lt, nt_eq, nf_eq, not_true_eq_false, and_self, and_false, false_and, eq_self, Bool.toNat_true, Bool.toNat_false, i_bool, i_bool1, Bool.false_eq_true, Bool.true_eq_false, reduceCtorEq, i_neg1, i_neg2, i_neg3, i_neg4, i_neg5, i_neg6, i_neg7, i_neg8, i_neg9, i_nega, i_negb, i_negc, i_max2, i_min2, wi_nil]
        repeat (
          first
          | refine s_X9_spare_0 ?_
          | refine s_X9_spare_7 ?_
          | refine s_X9_spare_10 ?_
          | refine s_X9_spare_17 ?_
          | refine s_X9_spare_39 ?_
          | refine s_X9_spare_59 ?_
          | refine s_X9_spare_60 ?_
          | refine s_X9_spare_79 ?_
          | refine s_X9_spare_84 ?_
          | refine s_X9_spare_87 ?_
          | refine s_X9_spare_92 ?_
          | refine s_X9_spare_93 ?_
          | refine s_X9_spare_100 ?_
          | refine s_X9_spare_111 ?_
          | refine s_X9_spare_117 ?_
          | refine s_X9_spare_121 ?_
          simp (disch := omega) only [B_X9_spare_0, wi_aload_n, wi_iload_n, wi_iconst, wi_invokestatic, B_X9_spare_7, wi_invokevirtual, cnt_8, B_X9_spare_10, wi_istore_n, wi_if_ge, wi_ireturn, B_X9_spare_17, wi_bipush, wi_istore, B_X9_spare_23, wi_iload, wi_getfield, fldv_8_10, fds_8_10, wi_ishl, wi_icmp_ge, B_X9_spare_39, wi_icmp_ne, fldv_8_20, fds_8_20, wi_iaload, wi_iand, wi_if_ne, wi_goto, cnt_40, aTy_40, aLn_40, arr_40, B_X9_spare_59, B_X9_spare_60, wi_if_eq, wi_icmp_eq, B_X9_spare_79, B_X9_spare_84, wi_icmp_le, B_X9_spare_87, B_X9_spare_92, B_X9_spare_93, wi_iinc, B_X9_spare_100, B_X9_spare_111, B_X9_spare_117, B_X9_spare_121, no0, no1, nz1, nz2, nz3, nz4, nz5, nz7, nz8, Classical.not_not, bz0, bz1, wi_nil, ld_0, ld_s, isIv_I, isLv_L, isRv_R, true_and, and_true, lset_0, lset_1, lset_s, avw_I, avw_L, avw_R, clr_cons, clr_nil, kst_0, kst_1, kstL_0, kstL_1, addk_I, pA_0, pA_s, pD_0, pD_s, wid_nil, wid_cons, rcv_c, putv_I, putv_L, List.length_cons, List.length_nil, List.set_cons_zero, List.set_cons_succ, not_false_eq_true, Nat.reduceMod, Nat.reduceDiv, Nat.reduceEqDiff, Nat.reduceLT, Nat.reduceLeDiff, Nat.reduceAdd, Nat.reduceSub, reduceIte, Nat.lt_irrefl, Nat.zero_ne_one, Nat.one_ne_zero, Nat.zero_add, List.nil_append, List.cons_append, Option.toList_some, Option.toList_none, forall_const, false_implies, true_implies, false_or, or_false, true_or, or_true, i_le, i_lt, i_eq, i_eq0, i_lt0, i_0le, i_0lt, i_le0, i_in1, i_cl, nI_add, pk_mul, pk_sub, i_div, i_rem, i_sh1, i_bit, i_or, i_and, i_andn, nt_le, nf_le, nt_lt, nf_lt, nt_eq, nf_eq, not_true_eq_false, and_self, and_false, false_and, eq_self, Bool.toNat_true, Bool.toNat_false, i_bool, i_bool1, Bool.false_eq_true, Bool.true_eq_false, reduceCtorEq, i_neg1, i_neg2, i_neg3, i_neg4, i_neg5, i_neg6, i_neg7, i_neg8, i_neg9, i_nega, i_negb, i_negc, i_max2, i_min2])
        refine l_mspare (by omega) hm hok ?_ (2 ^ Y 6 0) 0 (by omega)
        rw [← hst, hR]
        try simp (disch := omega) only [no0, no1, nz1, nz2, nz3, nz4, nz5, nz7, nz8, Classical.not_not, bz0, bz1, wi_nil, ld_0, ld_s, isIv_I, isLv_L, isRv_R, true_and, and_true, lset_0, lset_1, lset_s, avw_I, avw_L, avw_R, clr_cons, clr_nil, kst_0, kst_1, kstL_0, kstL_1, addk_I, pA_0, pA_s, pD_0, pD_s, wid_nil, wid_cons, rcv_c, putv_I, putv_L, List.length_cons, List.length_nil, List.set_cons_zero, List.set_cons_succ, not_false_eq_true, Nat.reduceMod, Nat.reduceDiv, Nat.reduceEqDiff, Nat.reduceLT, Nat.reduceLeDiff, Nat.reduceAdd, Nat.reduceSub, reduceIte, Nat.lt_irrefl, Nat.zero_ne_one, Nat.one_ne_zero, Nat.zero_add, List.nil_append, List.cons_append, Option.toList_some, Option.toList_none, forall_const, false_implies, true_implies, false_or, or_false, true_or, or_true, i_le, i_lt, i_eq, i_eq0, i_lt0, i_0le, i_0lt, i_le0, i_in1, i_cl, nI_add, pk_mul, pk_sub, i_div, i_rem, i_sh1, i_bit, i_or, i_and, i_andn, nt_le, nf_le, nt_lt, nf_lt, nt_eq, nf_eq, not_true_eq_false, and_self, and_false, false_and, eq_self, Bool.toNat_true, Bool.toNat_false, i_bool, i_bool1, Bool.false_eq_true, Bool.true_eq_false, reduceCtorEq, i_neg1, i_neg2, i_neg3, i_neg4, i_neg5, i_neg6, i_neg7, i_neg8, i_neg9, i_nega, i_negb, i_negc, i_max2, i_min2, wrI, wi_nil]
        repeat (
          first
          | refine s_X9_spare_0 ?_
          | refine s_X9_spare_7 ?_
          | refine s_X9_spare_10 ?_
          | refine s_X9_spare_17 ?_
          | refine s_X9_spare_39 ?_
          | refine s_X9_spare_59 ?_
          | refine s_X9_spare_60 ?_
          | refine s_X9_spare_79 ?_
          | refine s_X9_spare_84 ?_
          | refine s_X9_spare_87 ?_
          | refine s_X9_spare_92 ?_
          | refine s_X9_spare_93 ?_
          | refine s_X9_spare_100 ?_
          | refine s_X9_spare_111 ?_
          | refine s_X9_spare_117 ?_
          | refine s_X9_spare_121 ?_
          simp (disch := omega) only [B_X9_spare_0, wi_aload_n, wi_iload_n, wi_iconst, wi_invokestatic, B_X9_spare_7, wi_invokevirtual, cnt_8, B_X9_spare_10, wi_istore_n, wi_if_ge, wi_ireturn, B_X9_spare_17, wi_bipush, wi_istore, B_X9_spare_23, wi_iload, wi_getfield, fldv_8_10, fds_8_10, wi_ishl, wi_icmp_ge, B_X9_spare_39, wi_icmp_ne, fldv_8_20, fds_8_20, wi_iaload, wi_iand, wi_if_ne, wi_goto, cnt_40, aTy_40, aLn_40, arr_40, B_X9_spare_59, B_X9_spare_60, wi_if_eq, wi_icmp_eq, B_X9_spare_79, B_X9_spare_84, wi_icmp_le, B_X9_spare_87, B_X9_spare_92, B_X9_spare_93, wi_iinc, B_X9_spare_100, B_X9_spare_111, B_X9_spare_117, B_X9_spare_121, no0, no1, nz1, nz2, nz3, nz4, nz5, nz7, nz8, Classical.not_not, bz0, bz1, wi_nil, ld_0, ld_s, isIv_I, isLv_L, isRv_R, true_and, and_true, lset_0, lset_1, lset_s, avw_I, avw_L, avw_R, clr_cons, clr_nil, kst_0, kst_1, kstL_0, kstL_1, addk_I, pA_0, pA_s, pD_0, pD_s, wid_nil, wid_cons, rcv_c, putv_I, putv_L, List.length_cons, List.length_nil, List.set_cons_zero, List.set_cons_succ, not_false_eq_true, Nat.reduceMod, Nat.reduceDiv, Nat.reduceEqDiff, Nat.reduceLT, Nat.reduceLeDiff, Nat.reduceAdd, Nat.reduceSub, reduceIte, Nat.lt_irrefl, Nat.zero_ne_one, Nat.one_ne_zero, Nat.zero_add, List.nil_append, List.cons_append, Option.toList_some, Option.toList_none, forall_const, false_implies, true_implies, false_or, or_false, true_or, or_true, i_le, i_lt, i_eq, i_eq0, i_lt0, i_0le, i_0lt, i_le0, i_in1, i_cl, nI_add, pk_mul, pk_sub, i_div, i_rem, i_sh1, i_bit, i_or, i_and, i_andn, nt_le, nf_le, nt_lt, nf_lt, nt_eq, nf_eq, not_true_eq_false, and_self, and_false, false_and, eq_self, Bool.toNat_true, Bool.toNat_false, i_bool, i_bool1, Bool.false_eq_true, Bool.true_eq_false, reduceCtorEq, i_neg1, i_neg2, i_neg3, i_neg4, i_neg5, i_neg6, i_neg7, i_neg8, i_neg9, i_nega, i_negb, i_negc, i_max2, i_min2, wrI])
        exact pm h
      | some b =>
        have hb := sps_lt hR
        have hb9 : (nI b = -nI 9) = False := i_neg4 (by omega) (by decide) (by decide)
        try simp (disch := omega) only [no0, no1, nz1, nz2, nz3, nz4, nz5, nz7, nz8, Classical.not_not, bz0, bz1, wi_nil, ld_0, ld_s, isIv_I, isLv_L, isRv_R, true_and, and_true, lset_0, lset_1, lset_s, avw_I, avw_L, avw_R, clr_cons, clr_nil, kst_0, kst_1, kstL_0, kstL_1, addk_I, pA_0, pA_s, pD_0, pD_s, wid_nil, wid_cons, rcv_c, putv_I, putv_L, List.length_cons, List.length_nil, List.set_cons_zero, List.set_cons_succ, not_false_eq_true, Nat.reduceMod, Nat.reduceDiv, Nat.reduceEqDiff, Nat.reduceLT, Nat.reduceLeDiff, Nat.reduceAdd, Nat.reduceSub, reduceIte, Nat.lt_irrefl, Nat.zero_ne_one, Nat.one_ne_zero, Nat.zero_add, List.nil_append, List.cons_append, Option.toList_some, Option.toList_none, forall_const, false_implies, true_implies, false_or, or_false, true_or, or_true, i_le, i_lt, i_eq, i_eq0, i_lt0, i_0le, i_0lt, i_le0, i_in1, i_cl, nI_add, pk_mul, pk_sub, i_div, i_rem, i_sh1, i_bit, i_or, i_and, i_andn, nt_le, nf_le, nt_lt, nf_lt, nt_eq, nf_eq, not_true_eq_false, and_self, and_false, false_and, eq_self, Bool.toNat_true, Bool.toNat_false, i_bool, i_bool1, Bool.false_eq_true, Bool.true_eq_false, reduceCtorEq, i_neg1, i_neg2, i_neg3, i_neg4, i_neg5, i_neg6, i_neg7, i_neg8, i_neg9, i_nega, i_negb, i_negc, i_max2, i_min2, wrI, moI, hb9, wi_nil]
        repeat (
          first
          | refine s_X8_spare_0 ?_
          | refine s_X8_spare_9 ?_
          | refine s_X8_spare_11 ?_
          | refine s_X8_spare_24 ?_
          | refine s_X8_spare_31 ?_
          | refine s_X8_spare_62 ?_
          | refine s_X8_spare_75 ?_
          | refine s_X8_spare_92 ?_
          | refine s_X8_spare_94 ?_
          | refine s_X8_spare_100 ?_
          | refine s_X8_spare_112 ?_
          simp (disch := omega) only [B_X8_spare_0, wi_iload_n, wi_if_lt, wi_iconst, wi_icmp_le, B_X8_spare_9, wi_ireturn, B_X8_spare_11, wi_aload_n, wi_getfield, fldv_7_3, fds_7_3, cnt_7, fldv_6_7, fds_6_7, cnt_6, wi_if_ne, wi_bipush, B_X8_spare_24, wi_invokevirtual, B_X8_spare_31, wi_istore_n, wi_istore, B_X8_spare_41, wi_iload, wi_icmp_ge, wi_ixor, wi_iand, wi_invokestatic, B_X8_spare_62, wi_icmp_ne, B_X8_spare_75, B_X8_spare_92, B_X8_spare_94, wi_iinc, wi_goto, B_X8_spare_100, wi_icmp_eq, wi_putfield, pOk_7_11, B_X8_spare_112, no0, no1, nz1, nz2, nz3, nz4, nz5, nz7, nz8, Classical.not_not, bz0, bz1, wi_nil, ld_0, ld_s, isIv_I, isLv_L, isRv_R, true_and, and_true, lset_0, lset_1, lset_s, avw_I, avw_L, avw_R, clr_cons, clr_nil, kst_0, kst_1, kstL_0, kstL_1, addk_I, pA_0, pA_s, pD_0, pD_s, wid_nil, wid_cons, rcv_c, putv_I, putv_L, List.length_cons, List.length_nil, List.set_cons_zero, List.set_cons_succ, not_false_eq_true, Nat.reduceMod, Nat.reduceDiv, Nat.reduceEqDiff, Nat.reduceLT, Nat.reduceLeDiff, Nat.reduceAdd, Nat.reduceSub, reduceIte, Nat.lt_irrefl, Nat.zero_ne_one, Nat.one_ne_zero, Nat.zero_add, List.nil_append, List.cons_append, Option.toList_some, Option.toList_none, forall_const, false_implies, true_implies, false_or, or_false, true_or, or_true, i_le, i_lt, i_eq, i_eq0, i_lt0, i_0le, i_0lt, i_le0, i_in1, i_cl, nI_add, pk_mul, pk_sub, i_div, i_rem, i_sh1, i_bit, i_or, i_and, i_andn, nt_le, nf_le, nt_lt, nf_lt, nt_eq, nf_eq, not_true_eq_false, and_self, and_false, false_and, eq_self, Bool.toNat_true, Bool.toNat_false, i_bool, i_bool1, Bool.false_eq_true, Bool.true_eq_false, reduceCtorEq, i_neg1, i_neg2, i_neg3, i_neg4, i_neg5, i_neg6, i_neg7, i_neg8, i_neg9, i_nega, i_negb, i_negc, i_max2, i_min2, wrI, moI, hb9])
        refine px ?_
        have hm2 : YrM (sI S 7 0 11 (nI (ylos Y b))) 40 Y := hm
        refine x_entry (ls2 := [aR 8 0, aI (nI v), aU, aU, aU, aU]) (Nat.le_of_ble_eq_true rfl) pl_9 rfl (Nat.le_of_ble_eq_true rfl) ?_
        try simp (disch := omega) only [no0, no1, nz1, nz2, nz3, nz4, nz5, nz7, nz8, Classical.not_not, bz0, bz1, wi_nil, ld_0, ld_s, isIv_I, isLv_L, isRv_R, true_and, and_true, lset_0, lset_1, lset_s, avw_I, avw_L, avw_R, clr_cons, clr_nil, kst_0, kst_1, kstL_0, kstL_1, addk_I, pA_0, pA_s, pD_0, pD_s, wid_nil, wid_cons, rcv_c, putv_I, putv_L, List.length_cons, List.length_nil, List.set_cons_zero, List.set_cons_succ, not_false_eq_true, Nat.reduceMod, Nat.reduceDiv, Nat.reduceEqDiff, Nat.reduceLT, Nat.reduceLeDiff, Nat.reduceAdd, Nat.reduceSub, reduceIte, Nat.lt_irrefl, Nat.zero_ne_one, Nat.one_ne_zero, Nat.zero_add, List.nil_append, List.cons_append, Option.toList_some, Option.toList_none, forall_const, false_implies, true_implies, false_or, or_false, true_or, or_true, i_le, i_lt, i_eq, i_eq0, i_lt0, i_0le, i_0lt, i_le0, i_in1, i_cl, nI_add, pk_mul, pk_sub, i_div, i_rem, i_sh1, i_bit, i_or, i_and, i_andn, nt_le, nf_le, nt_lt, nf_lt, nt_eq, nf_eq, not_true_eq_false, and_self, and_false, false_and, eq_self, Bool.toNat_true, Bool.toNat_false, i_bool, i_bool1, Bool.false_eq_true, Bool.true_eq_false, reduceCtorEq, i_neg1, i_neg2, i_neg3, i_neg4, i_neg5, i_neg6, i_neg7, i_neg8, i_neg9, i_nega, i_negb, i_negc, i_max2, i_min2, wi_nil]
        repeat (
          first
          | refine s_X9_spare_0 ?_
          | refine s_X9_spare_7 ?_
          | refine s_X9_spare_10 ?_
          | refine s_X9_spare_17 ?_
          | refine s_X9_spare_39 ?_
          | refine s_X9_spare_59 ?_
          | refine s_X9_spare_60 ?_
          | refine s_X9_spare_79 ?_
          | refine s_X9_spare_84 ?_
          | refine s_X9_spare_87 ?_
          | refine s_X9_spare_92 ?_
          | refine s_X9_spare_93 ?_
          | refine s_X9_spare_100 ?_
          | refine s_X9_spare_111 ?_
          | refine s_X9_spare_117 ?_
          | refine s_X9_spare_121 ?_
          simp (disch := omega) only [B_X9_spare_0, wi_aload_n, wi_iload_n, wi_iconst, wi_invokestatic, B_X9_spare_7, wi_invokevirtual, cnt_8, B_X9_spare_10, wi_istore_n, wi_if_ge, wi_ireturn, B_X9_spare_17, wi_bipush, wi_istore, B_X9_spare_23, wi_iload, wi_getfield, fldv_8_10, fds_8_10, wi_ishl, wi_icmp_ge, B_X9_spare_39, wi_icmp_ne, fldv_8_20, fds_8_20, wi_iaload, wi_iand, wi_if_ne, wi_goto, cnt_40, aTy_40, aLn_40, arr_40, B_X9_spare_59, B_X9_spare_60, wi_if_eq, wi_icmp_eq, B_X9_spare_79, B_X9_spare_84, wi_icmp_le, B_X9_spare_87, B_X9_spare_92, B_X9_spare_93, wi_iinc, B_X9_spare_100, B_X9_spare_111, B_X9_spare_117, B_X9_spare_121, no0, no1, nz1, nz2, nz3, nz4, nz5, nz7, nz8, Classical.not_not, bz0, bz1, wi_nil, ld_0, ld_s, isIv_I, isLv_L, isRv_R, true_and, and_true, lset_0, lset_1, lset_s, avw_I, avw_L, avw_R, clr_cons, clr_nil, kst_0, kst_1, kstL_0, kstL_1, addk_I, pA_0, pA_s, pD_0, pD_s, wid_nil, wid_cons, rcv_c, putv_I, putv_L, List.length_cons, List.length_nil, List.set_cons_zero, List.set_cons_succ, not_false_eq_true, Nat.reduceMod, Nat.reduceDiv, Nat.reduceEqDiff, Nat.reduceLT, Nat.reduceLeDiff, Nat.reduceAdd, Nat.reduceSub, reduceIte, Nat.lt_irrefl, Nat.zero_ne_one, Nat.one_ne_zero, Nat.zero_add, List.nil_append, List.cons_append, Option.toList_some, Option.toList_none, forall_const, false_implies, true_implies, false_or, or_false, true_or, or_true, i_le, i_lt, i_eq, i_eq0, i_lt0, i_0le, i_0lt, i_le0, i_in1, i_cl, nI_add, pk_mul, pk_sub, i_div, i_rem, i_sh1, i_bit, i_or, i_and, i_andn, nt_le, nf_le, nt_lt, nf_lt, nt_eq, nf_eq, not_true_eq_false, and_self, and_false, false_and, eq_self, Bool.toNat_true, Bool.toNat_false, i_bool, i_bool1, Bool.false_eq_true, Bool.true_eq_false, reduceCtorEq, i_neg1, i_neg2, i_neg3, i_neg4, i_neg5, i_neg6, i_neg7, i_neg8, i_neg9, i_nega, i_negb, i_negc, i_max2, i_min2])
        refine c_in (inb_le (N := 5) (by decide)) ?_
        try simp (disch := omega) only [no0, no1, nz1, nz2, nz3, nz4, nz5, nz7, nz8, Classical.not_not, bz0, bz1, wi_nil, ld_0, ld_s, isIv_I, isLv_L, isRv_R, true_and, and_true, lset_0, lset_1, lset_s, avw_I, avw_L, avw_R, clr_cons, clr_nil, kst_0, kst_1, kstL_0, kstL_1, addk_I, pA_0, pA_s, pD_0, pD_s, wid_nil, wid_cons, rcv_c, putv_I, putv_L, List.length_cons, List.length_nil, List.set_cons_zero, List.set_cons_succ, not_false_eq_true, Nat.reduceMod, Nat.reduceDiv, Nat.reduceEqDiff, Nat.reduceLT, Nat.reduceLeDiff, Nat.reduceAdd, Nat.reduceSub, reduceIte, Nat.lt_irrefl, Nat.zero_ne_one, Nat.one_ne_zero, Nat.zero_add, List.nil_append, List.cons_append, Option.toList_some, Option.toList_none, forall_const, false_implies, true_implies, false_or, or_false, true_or, or_true, i_le, i_lt, i_eq, i_eq0, i_lt0, i_0le, i_0lt, i_le0, i_in1, i_cl, nI_add, pk_mul, pk_sub, i_div, i_rem, i_sh1, i_bit, i_or, i_and, i_andn, nt_le, nf_le, nt_lt, nf_lt, nt_eq, nf_eq, not_true_eq_false, and_self, and_false, false_and, eq_self, Bool.toNat_true, Bool.toNat_false, i_bool, i_bool1, Bool.false_eq_true, Bool.true_eq_false, reduceCtorEq, i_neg1, i_neg2, i_neg3, i_neg4, i_neg5, i_neg6, i_neg7, i_neg8, i_neg9, i_nega, i_negb, i_negc, i_max2, i_min2, hv, wi_nil]
        repeat (
          first
          | refine s_X9_spare_0 ?_
          | refine s_X9_spare_7 ?_
          | refine s_X9_spare_10 ?_
          | refine s_X9_spare_17 ?_
          | refine s_X9_spare_39 ?_
          | refine s_X9_spare_59 ?_
          | refine s_X9_spare_60 ?_
          | refine s_X9_spare_79 ?_
          | refine s_X9_spare_84 ?_
          | refine s_X9_spare_87 ?_
          | refine s_X9_spare_92 ?_
          | refine s_X9_spare_93 ?_
          | refine s_X9_spare_100 ?_
          | refine s_X9_spare_111 ?_
          | refine s_X9_spare_117 ?_
          | refine s_X9_spare_121 ?_
          simp (disch := omega) only [B_X9_spare_0, wi_aload_n, wi_iload_n, wi_iconst, wi_invokestatic, B_X9_spare_7, wi_invokevirtual, cnt_8, B_X9_spare_10, wi_istore_n, wi_if_ge, wi_ireturn, B_X9_spare_17, wi_bipush, wi_istore, B_X9_spare_23, wi_iload, wi_getfield, fldv_8_10, fds_8_10, wi_ishl, wi_icmp_ge, B_X9_spare_39, wi_icmp_ne, fldv_8_20, fds_8_20, wi_iaload, wi_iand, wi_if_ne, wi_goto, cnt_40, aTy_40, aLn_40, arr_40, B_X9_spare_59, B_X9_spare_60, wi_if_eq, wi_icmp_eq, B_X9_spare_79, B_X9_spare_84, wi_icmp_le, B_X9_spare_87, B_X9_spare_92, B_X9_spare_93, wi_iinc, B_X9_spare_100, B_X9_spare_111, B_X9_spare_117, B_X9_spare_121, no0, no1, nz1, nz2, nz3, nz4, nz5, nz7, nz8, Classical.not_not, bz0, bz1, wi_nil, ld_0, ld_s, isIv_I, isLv_L, isRv_R, true_and, and_true, lset_0, lset_1, lset_s, avw_I, avw_L, avw_R, clr_cons, clr_nil, kst_0, kst_1, kstL_0, kstL_1, addk_I, pA_0, pA_s, pD_0, pD_s, wid_nil, wid_cons, rcv_c, putv_I, putv_L, List.length_cons, List.length_nil, List.set_cons_zero, List.set_cons_succ, not_false_eq_true, Nat.reduceMod, Nat.reduceDiv, Nat.reduceEqDiff, Nat.reduceLT, Nat.reduceLeDiff, Nat.reduceAdd, Nat.reduceSub, reduceIte, Nat.lt_irrefl, Nat.zero_ne_one, Nat.one_ne_zero, Nat.zero_add, List.nil_append, List.cons_append, Option.toList_some, Option.toList_none, forall_const, false_implies, true_implies, false_or, or_false, true_or, or_true, i_le, i_lt, i_eq, i_eq0, i_lt0, i_0le, i_0lt, i_le0, i_in1, i_cl, nI_add, pk_mul, pk_sub, i_div, i_rem, i_sh1, i_bit, i_or, i_and, i_andn, nt_le, nf_le, nt_lt, nf_lt, nt_eq, nf_eq, not_true_eq_false, and_self, and_false, false_and, eq_self, Bool.toNat_true, Bool.toNat_false, i_bool, i_bool1, Bool.false_eq_true, Bool.true_eq_false, reduceCtorEq, i_neg1, i_neg2, i_neg3, i_neg4, i_neg5, i_neg6, i_neg7, i_neg8, i_neg9, i_nega, i_negb, i_negc, i_max2, i_min2, hv])
        refine c_needK hm2 hn5 e0 ?_
        try simp (disch := omega) only [no0, no1, nz1, nz2, nz3, nz4, nz5, nz7, nz8, Classical.not_not, bz0, bz1, wi_nil, ld_0, ld_s, isIv_I, isLv_L, isRv_R, true_and, and_true, lset_0, lset_1, lset_s, avw_I, avw_L, avw_R, clr_cons, clr_nil, kst_0, kst_1, kstL_0, kstL_1, addk_I, pA_0, pA_s, pD_0, pD_s, wid_nil, wid_cons, rcv_c, putv_I, putv_L, List.length_cons, List.length_nil, List.set_cons_zero, List.set_cons_succ, not_false_eq_true, Nat.reduceMod, Nat.reduceDiv, Nat.reduceEqDiff, Nat.reduceLT, Nat.reduceLeDiff, Nat.reduceAdd, Nat.reduceSub, reduceIte, Nat.lt_irrefl, Nat.zero_ne_one, Nat.one_ne_zero, Nat.zero_add, List.nil_append, List.cons_append, Option.toList_some, Option.toList_none, forall_const, false_implies, true_implies, false_or, or_false, true_or, or_true, i_le, i_lt, i_eq, i_eq0, i_lt0, i_0le, i_0lt, i_le0, i_in1, i_cl, nI_add, pk_mul, pk_sub, i_div, i_rem, i_sh1, i_bit, i_or, i_and, i_andn, nt_le, nf_le, nt_lt, nf_lt, nt_eq, nf_eq, not_true_eq_false, and_self, and_false, false_and, eq_self, Bool.toNat_true, Bool.toNat_false, i_bool, i_bool1, Bool.false_eq_true, Bool.true_eq_false, reduceCtorEq, i_neg1, i_neg2, i_neg3, i_neg4, i_neg5, i_neg6, i_neg7, i_neg8, i_neg9, i_nega, i_negb, i_negc, i_max2, i_min2, wi_nil]
        repeat (
          first
          | refine s_X9_spare_0 ?_
          | refine s_X9_spare_7 ?_
          | refine s_X9_spare_10 ?_
          | refine s_X9_spare_17 ?_
          | refine s_X9_spare_39 ?_
          | refine s_X9_spare_59 ?_
          | refine s_X9_spare_60 ?_
          | refine s_X9_spare_79 ?_
          | refine s_X9_spare_84 ?_
          | refine s_X9_spare_87 ?_
          | refine s_X9_spare_92 ?_
          | refine s_X9_spare_93 ?_
          | refine s_X9_spare_100 ?_
          | refine s_X9_spare_111 ?_
          | refine s_X9_spare_117 ?_
          | refine s_X9_spare_121 ?_
          simp (disch := omega) only [B_X9_spare_0, wi_aload_n, wi_iload_n, wi_iconst, wi_invokestatic, B_X9_spare_7, wi_invokevirtual, cnt_8, B_X9_spare_10, wi_istore_n, wi_if_ge, wi_ireturn, B_X9_spare_17, wi_bipush, wi_istore, B_X9_spare_23, wi_iload, wi_getfield, fldv_8_10, fds_8_10, wi_ishl, wi_icmp_ge, B_X9_spare_39, wi_icmp_ne, fldv_8_20, fds_8_20, wi_iaload, wi_iand, wi_if_ne, wi_goto, cnt_40, aTy_40, aLn_40, arr_40, B_X9_spare_59, B_X9_spare_60, wi_if_eq, wi_icmp_eq, B_X9_spare_79, B_X9_spare_84, wi_icmp_le, B_X9_spare_87, B_X9_spare_92, B_X9_spare_93, wi_iinc, B_X9_spare_100, B_X9_spare_111, B_X9_spare_117, B_X9_spare_121, no0, no1, nz1, nz2, nz3, nz4, nz5, nz7, nz8, Classical.not_not, bz0, bz1, wi_nil, ld_0, ld_s, isIv_I, isLv_L, isRv_R, true_and, and_true, lset_0, lset_1, lset_s, avw_I, avw_L, avw_R, clr_cons, clr_nil, kst_0, kst_1, kstL_0, kstL_1, addk_I, pA_0, pA_s, pD_0, pD_s, wid_nil, wid_cons, rcv_c, putv_I, putv_L, List.length_cons, List.length_nil, List.set_cons_zero, List.set_cons_succ, not_false_eq_true, Nat.reduceMod, Nat.reduceDiv, Nat.reduceEqDiff, Nat.reduceLT, Nat.reduceLeDiff, Nat.reduceAdd, Nat.reduceSub, reduceIte, Nat.lt_irrefl, Nat.zero_ne_one, Nat.one_ne_zero, Nat.zero_add, List.nil_append, List.cons_append, Option.toList_some, Option.toList_none, forall_const, false_implies, true_implies, false_or, or_false, true_or, or_true, i_le, i_lt, i_eq, i_eq0, i_lt0, i_0le, i_0lt, i_le0, i_in1, i_cl, nI_add, pk_mul, pk_sub, i_div, i_rem, i_sh1, i_bit, i_or, i_and, i_andn, nt_le, nf_le, nt_lt, nf_lt, nt_eq, nf_eq, not_true_eq_false, and_self, and_false, false_and, eq_self, Bool.toNat_true, Bool.toNat_false, i_bool, i_bool1, Bool.false_eq_true, Bool.true_eq_false, reduceCtorEq, i_neg1, i_neg2, i_neg3, i_neg4, i_neg5, i_neg6, i_neg7, i_neg8, i_neg9, i_nega, i_negb, i_negc, i_max2, i_min2])
        refine l_mspare (by omega) hm2 hok ?_ (2 ^ Y 6 0) 0 (by omega)
        rw [← hst, hR]
        try simp (disch := omega) only [no0, no1, nz1, nz2, nz3, nz4, nz5, nz7, nz8, Classical.not_not, bz0, bz1, wi_nil, ld_0, ld_s, isIv_I, isLv_L, isRv_R, true_and, and_true, lset_0, lset_1, lset_s, avw_I, avw_L, avw_R, clr_cons, clr_nil, kst_0, kst_1, kstL_0, kstL_1, addk_I, pA_0, pA_s, pD_0, pD_s, wid_nil, wid_cons, rcv_c, putv_I, putv_L, List.length_cons, List.length_nil, List.set_cons_zero, List.set_cons_succ, not_false_eq_true, Nat.reduceMod, Nat.reduceDiv, Nat.reduceEqDiff, Nat.reduceLT, Nat.reduceLeDiff, Nat.reduceAdd, Nat.reduceSub, reduceIte, Nat.lt_irrefl, Nat.zero_ne_one, Nat.one_ne_zero, Nat.zero_add, List.nil_append, List.cons_append, Option.toList_some, Option.toList_none, forall_const, false_implies, true_implies, false_or, or_false, true_or, or_true, i_le, i_lt, i_eq, i_eq0, i_lt0, i_0le, i_0lt, i_le0, i_in1, i_cl, nI_add, pk_mul, pk_sub, i_div, i_rem, i_sh1, i_bit, i_or, i_and, i_andn, nt_le, nf_le, nt_lt, nf_lt, nt_eq, nf_eq, not_true_eq_false, and_self, and_false, false_and, eq_self, Bool.toNat_true, Bool.toNat_false, i_bool, i_bool1, Bool.false_eq_true, Bool.true_eq_false, reduceCtorEq, i_neg1, i_neg2, i_neg3, i_neg4, i_neg5, i_neg6, i_neg7, i_neg8, i_neg9, i_nega, i_negb, i_negc, i_max2, i_min2, wrI, hb9, wi_nil]
        repeat (
          first
          | refine s_X9_spare_0 ?_
          | refine s_X9_spare_7 ?_
          | refine s_X9_spare_10 ?_
          | refine s_X9_spare_17 ?_
          | refine s_X9_spare_39 ?_
          | refine s_X9_spare_59 ?_
          | refine s_X9_spare_60 ?_
          | refine s_X9_spare_79 ?_
          | refine s_X9_spare_84 ?_
          | refine s_X9_spare_87 ?_
          | refine s_X9_spare_92 ?_
          | refine s_X9_spare_93 ?_
          | refine s_X9_spare_100 ?_
          | refine s_X9_spare_111 ?_
          | refine s_X9_spare_117 ?_
          | refine s_X9_spare_121 ?_
          simp (disch := omega) only [B_X9_spare_0, wi_aload_n, wi_iload_n, wi_iconst, wi_invokestatic, B_X9_spare_7, wi_invokevirtual, cnt_8, B_X9_spare_10, wi_istore_n, wi_if_ge, wi_ireturn, B_X9_spare_17, wi_bipush, wi_istore, B_X9_spare_23, wi_iload, wi_getfield, fldv_8_10, fds_8_10, wi_ishl, wi_icmp_ge, B_X9_spare_39, wi_icmp_ne, fldv_8_20, fds_8_20, wi_iaload, wi_iand, wi_if_ne, wi_goto, cnt_40, aTy_40, aLn_40, arr_40, B_X9_spare_59, B_X9_spare_60, wi_if_eq, wi_icmp_eq, B_X9_spare_79, B_X9_spare_84, wi_icmp_le, B_X9_spare_87, B_X9_spare_92, B_X9_spare_93, wi_iinc, B_X9_spare_100, B_X9_spare_111, B_X9_spare_117, B_X9_spare_121, no0, no1, nz1, nz2, nz3, nz4, nz5, nz7, nz8, Classical.not_not, bz0, bz1, wi_nil, ld_0, ld_s, isIv_I, isLv_L, isRv_R, true_and, and_true, lset_0, lset_1, lset_s, avw_I, avw_L, avw_R, clr_cons, clr_nil, kst_0, kst_1, kstL_0, kstL_1, addk_I, pA_0, pA_s, pD_0, pD_s, wid_nil, wid_cons, rcv_c, putv_I, putv_L, List.length_cons, List.length_nil, List.set_cons_zero, List.set_cons_succ, not_false_eq_true, Nat.reduceMod, Nat.reduceDiv, Nat.reduceEqDiff, Nat.reduceLT, Nat.reduceLeDiff, Nat.reduceAdd, Nat.reduceSub, reduceIte, Nat.lt_irrefl, Nat.zero_ne_one, Nat.one_ne_zero, Nat.zero_add, List.nil_append, List.cons_append, Option.toList_some, Option.toList_none, forall_const, false_implies, true_implies, false_or, or_false, true_or, or_true, i_le, i_lt, i_eq, i_eq0, i_lt0, i_0le, i_0lt, i_le0, i_in1, i_cl, nI_add, pk_mul, pk_sub, i_div, i_rem, i_sh1, i_bit, i_or, i_and, i_andn, nt_le, nf_le, nt_lt, nf_lt, nt_eq, nf_eq, not_true_eq_false, and_self, and_false, false_and, eq_self, Bool.toNat_true, Bool.toNat_false, i_bool, i_bool1, Bool.false_eq_true, Bool.true_eq_false, reduceCtorEq, i_neg1, i_neg2, i_neg3, i_neg4, i_neg5, i_neg6, i_neg7, i_neg8, i_neg9, i_nega, i_negb, i_negc, i_max2, i_min2, wrI, hb9])
        refine c_savedBy hm2 hok (by omega) ?_
        try simp (disch := omega) only [no0, no1, nz1, nz2, nz3, nz4, nz5, nz7, nz8, Classical.not_not, bz0, bz1, wi_nil, ld_0, ld_s, isIv_I, isLv_L, isRv_R, true_and, and_true, lset_0, lset_1, lset_s, avw_I, avw_L, avw_R, clr_cons, clr_nil, kst_0, kst_1, kstL_0, kstL_1, addk_I, pA_0, pA_s, pD_0, pD_s, wid_nil, wid_cons, rcv_c, putv_I, putv_L, List.length_cons, List.length_nil, List.set_cons_zero, List.set_cons_succ, not_false_eq_true, Nat.reduceMod, Nat.reduceDiv, Nat.reduceEqDiff, Nat.reduceLT, Nat.reduceLeDiff, Nat.reduceAdd, Nat.reduceSub, reduceIte, Nat.lt_irrefl, Nat.zero_ne_one, Nat.one_ne_zero, Nat.zero_add, List.nil_append, List.cons_append, Option.toList_some, Option.toList_none, forall_const, false_implies, true_implies, false_or, or_false, true_or, or_true, i_le, i_lt, i_eq, i_eq0, i_lt0, i_0le, i_0lt, i_le0, i_in1, i_cl, nI_add, pk_mul, pk_sub, i_div, i_rem, i_sh1, i_bit, i_or, i_and, i_andn, nt_le, nf_le, nt_lt, nf_lt, nt_eq, nf_eq, not_true_eq_false, and_self, and_false, false_and, eq_self, Bool.toNat_true, Bool.toNat_false, i_bool, i_bool1, Bool.false_eq_true, Bool.true_eq_false, reduceCtorEq, i_neg1, i_neg2, i_neg3, i_neg4, i_neg5, i_neg6, i_neg7, i_neg8, i_neg9, i_nega, i_negb, i_negc, i_max2, i_min2, wi_nil]
        repeat (
          first
          | refine s_X9_spare_0 ?_
          | refine s_X9_spare_7 ?_
          | refine s_X9_spare_10 ?_
          | refine s_X9_spare_17 ?_
          | refine s_X9_spare_39 ?_
          | refine s_X9_spare_59 ?_
          | refine s_X9_spare_60 ?_
          | refine s_X9_spare_79 ?_
          | refine s_X9_spare_84 ?_
          | refine s_X9_spare_87 ?_
          | refine s_X9_spare_92 ?_
          | refine s_X9_spare_93 ?_
          | refine s_X9_spare_100 ?_
          | refine s_X9_spare_111 ?_
          | refine s_X9_spare_117 ?_
          | refine s_X9_spare_121 ?_
          simp (disch := omega) only [B_X9_spare_0, wi_aload_n, wi_iload_n, wi_iconst, wi_invokestatic, B_X9_spare_7, wi_invokevirtual, cnt_8, B_X9_spare_10, wi_istore_n, wi_if_ge, wi_ireturn, B_X9_spare_17, wi_bipush, wi_istore, B_X9_spare_23, wi_iload, wi_getfield, fldv_8_10, fds_8_10, wi_ishl, wi_icmp_ge, B_X9_spare_39, wi_icmp_ne, fldv_8_20, fds_8_20, wi_iaload, wi_iand, wi_if_ne, wi_goto, cnt_40, aTy_40, aLn_40, arr_40, B_X9_spare_59, B_X9_spare_60, wi_if_eq, wi_icmp_eq, B_X9_spare_79, B_X9_spare_84, wi_icmp_le, B_X9_spare_87, B_X9_spare_92, B_X9_spare_93, wi_iinc, B_X9_spare_100, B_X9_spare_111, B_X9_spare_117, B_X9_spare_121, no0, no1, nz1, nz2, nz3, nz4, nz5, nz7, nz8, Classical.not_not, bz0, bz1, wi_nil, ld_0, ld_s, isIv_I, isLv_L, isRv_R, true_and, and_true, lset_0, lset_1, lset_s, avw_I, avw_L, avw_R, clr_cons, clr_nil, kst_0, kst_1, kstL_0, kstL_1, addk_I, pA_0, pA_s, pD_0, pD_s, wid_nil, wid_cons, rcv_c, putv_I, putv_L, List.length_cons, List.length_nil, List.set_cons_zero, List.set_cons_succ, not_false_eq_true, Nat.reduceMod, Nat.reduceDiv, Nat.reduceEqDiff, Nat.reduceLT, Nat.reduceLeDiff, Nat.reduceAdd, Nat.reduceSub, reduceIte, Nat.lt_irrefl, Nat.zero_ne_one, Nat.one_ne_zero, Nat.zero_add, List.nil_append, List.cons_append, Option.toList_some, Option.toList_none, forall_const, false_implies, true_implies, false_or, or_false, true_or, or_true, i_le, i_lt, i_eq, i_eq0, i_lt0, i_0le, i_0lt, i_le0, i_in1, i_cl, nI_add, pk_mul, pk_sub, i_div, i_rem, i_sh1, i_bit, i_or, i_and, i_andn, nt_le, nf_le, nt_lt, nf_lt, nt_eq, nf_eq, not_true_eq_false, and_self, and_false, false_and, eq_self, Bool.toNat_true, Bool.toNat_false, i_bool, i_bool1, Bool.false_eq_true, Bool.true_eq_false, reduceCtorEq, i_neg1, i_neg2, i_neg3, i_neg4, i_neg5, i_neg6, i_neg7, i_neg8, i_neg9, i_nega, i_negb, i_negc, i_max2, i_min2])
        refine c_tells ?_
        try simp (disch := omega) only [no0, no1, nz1, nz2, nz3, nz4, nz5, nz7, nz8, Classical.not_not, bz0, bz1, wi_nil, ld_0, ld_s, isIv_I, isLv_L, isRv_R, true_and, and_true, lset_0, lset_1, lset_s, avw_I, avw_L, avw_R, clr_cons, clr_nil, kst_0, kst_1, kstL_0, kstL_1, addk_I, pA_0, pA_s, pD_0, pD_s, wid_nil, wid_cons, rcv_c, putv_I, putv_L, List.length_cons, List.length_nil, List.set_cons_zero, List.set_cons_succ, not_false_eq_true, Nat.reduceMod, Nat.reduceDiv, Nat.reduceEqDiff, Nat.reduceLT, Nat.reduceLeDiff, Nat.reduceAdd, Nat.reduceSub, reduceIte, Nat.lt_irrefl, Nat.zero_ne_one, Nat.one_ne_zero, Nat.zero_add, List.nil_append, List.cons_append, Option.toList_some, Option.toList_none, forall_const, false_implies, true_implies, false_or, or_false, true_or, or_true, i_le, i_lt, i_eq, i_eq0, i_lt0, i_0le, i_0lt, i_le0, i_in1, i_cl, nI_add, pk_mul, pk_sub, i_div, i_rem, i_sh1, i_bit, i_or, i_and, i_andn, nt_le, nf_le, nt_lt, nf_lt, nt_eq, nf_eq, not_true_eq_false, and_self, and_false, false_and, eq_self, Bool.toNat_true, Bool.toNat_false, i_bool, i_bool1, Bool.false_eq_true, Bool.true_eq_false, reduceCtorEq, i_neg1, i_neg2, i_neg3, i_neg4, i_neg5, i_neg6, i_neg7, i_neg8, i_neg9, i_nega, i_negb, i_negc, i_max2, i_min2, wi_nil]
        repeat (
          first
          | refine s_X9_spare_0 ?_
          | refine s_X9_spare_7 ?_
          | refine s_X9_spare_10 ?_
          | refine s_X9_spare_17 ?_
          | refine s_X9_spare_39 ?_
          | refine s_X9_spare_59 ?_
          | refine s_X9_spare_60 ?_
          | refine s_X9_spare_79 ?_
          | refine s_X9_spare_84 ?_
          | refine s_X9_spare_87 ?_
          | refine s_X9_spare_92 ?_
          | refine s_X9_spare_93 ?_
          | refine s_X9_spare_100 ?_
          | refine s_X9_spare_111 ?_
          | refine s_X9_spare_117 ?_
          | refine s_X9_spare_121 ?_
          simp (disch := omega) only [B_X9_spare_0, wi_aload_n, wi_iload_n, wi_iconst, wi_invokestatic, B_X9_spare_7, wi_invokevirtual, cnt_8, B_X9_spare_10, wi_istore_n, wi_if_ge, wi_ireturn, B_X9_spare_17, wi_bipush, wi_istore, B_X9_spare_23, wi_iload, wi_getfield, fldv_8_10, fds_8_10, wi_ishl, wi_icmp_ge, B_X9_spare_39, wi_icmp_ne, fldv_8_20, fds_8_20, wi_iaload, wi_iand, wi_if_ne, wi_goto, cnt_40, aTy_40, aLn_40, arr_40, B_X9_spare_59, B_X9_spare_60, wi_if_eq, wi_icmp_eq, B_X9_spare_79, B_X9_spare_84, wi_icmp_le, B_X9_spare_87, B_X9_spare_92, B_X9_spare_93, wi_iinc, B_X9_spare_100, B_X9_spare_111, B_X9_spare_117, B_X9_spare_121, no0, no1, nz1, nz2, nz3, nz4, nz5, nz7, nz8, Classical.not_not, bz0, bz1, wi_nil, ld_0, ld_s, isIv_I, isLv_L, isRv_R, true_and, and_true, lset_0, lset_1, lset_s, avw_I, avw_L, avw_R, clr_cons, clr_nil, kst_0, kst_1, kstL_0, kstL_1, addk_I, pA_0, pA_s, pD_0, pD_s, wid_nil, wid_cons, rcv_c, putv_I, putv_L, List.length_cons, List.length_nil, List.set_cons_zero, List.set_cons_succ, not_false_eq_true, Nat.reduceMod, Nat.reduceDiv, Nat.reduceEqDiff, Nat.reduceLT, Nat.reduceLeDiff, Nat.reduceAdd, Nat.reduceSub, reduceIte, Nat.lt_irrefl, Nat.zero_ne_one, Nat.one_ne_zero, Nat.zero_add, List.nil_append, List.cons_append, Option.toList_some, Option.toList_none, forall_const, false_implies, true_implies, false_or, or_false, true_or, or_true, i_le, i_lt, i_eq, i_eq0, i_lt0, i_0le, i_0lt, i_le0, i_in1, i_cl, nI_add, pk_mul, pk_sub, i_div, i_rem, i_sh1, i_bit, i_or, i_and, i_andn, nt_le, nf_le, nt_lt, nf_lt, nt_eq, nf_eq, not_true_eq_false, and_self, and_false, false_and, eq_self, Bool.toNat_true, Bool.toNat_false, i_bool, i_bool1, Bool.false_eq_true, Bool.true_eq_false, reduceCtorEq, i_neg1, i_neg2, i_neg3, i_neg4, i_neg5, i_neg6, i_neg7, i_neg8, i_neg9, i_nega, i_negb, i_negc, i_max2, i_min2])
        exact pm (r_tell h Fr.refl)
end
