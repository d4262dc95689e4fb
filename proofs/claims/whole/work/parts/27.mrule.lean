-- PART 27: the reference's rules; copies of a year, what a deed tells
section
variable {d k B : Nat} {S : MS} {Y : Nat → Nat → Nat} {P : Option AV → MS → Prop}
theorem l_mfirst {r w : Nat} {L s : Int32} (hk : k = 40 ∨ k = 41) (hm : YrM S k Y) (ho : YOk B Y) (hB : B < 1000) (hr : r < 4) (hw : w < 32) (q : wpX (d + 4) mX9_byRule 86 [aR 8 0, aR k 0, aI (nI r), aI L, aI (nI w), aI s, aI (wrI (scn (rkM Y r) w (Y 6 0))), aU] [] S P) : ∀ (m i : Nat), i + m = Y 6 0 → wpX (d + 4) mX9_byRule 26 [aR 8 0, aR k 0, aI (nI r), aI L, aI (nI w), aI s, aI (wrI (scn (rkM Y r) w i)), aI (nI i)] [] S P := by
  obtain ⟨kc, kT, kL, kK, k9, kA⟩ := ofk hk
  have hn5 := ho.1.1
  intro m
  induction m with
  | zero =>
    intro i hi
    have e : i = Y 6 0 := by omega
    subst e
    refine s_X9_byRule_26 ?_
    simp (disch := omega) only [B_X9_byRule_26, wi_iload, wi_aload_n, wi_getfield, fldv_8_10, fds_8_10, cnt_8, wi_icmp_ge, wi_invokestatic, no0, no1, nz1, nz2, nz3, nz4, nz5, nz7, nz8, Classical.not_not, bz0, bz1, wi_nil, ld_0, ld_s, isIv_I, isLv_L, isRv_R, true_and, and_true, lset_0, lset_1, lset_s, avw_I, avw_L, avw_R, clr_cons, clr_nil, kst_0, kst_1, kstL_0, kstL_1, addk_I, pA_0, pA_s, pD_0, pD_s, wid_nil, wid_cons, rcv_c, putv_I, putv_L, List.length_cons, List.length_nil, List.set_cons_zero, List.set_cons_succ, not_false_eq_true, Nat.reduceMod, Nat.reduceDiv, Nat.reduceEqDiff, Nat.reduceLT, Nat.reduceLeDiff, Nat.reduceAdd, Nat.reduceSub, reduceIte, Nat.lt_irrefl, Nat.zero_ne_one, Nat.one_ne_zero, Nat.zero_add, List.nil_append, List.cons_append, Option.toList_some, Option.toList_none, forall_const, false_implies, true_implies, false_or, or_false, true_or, or_true, i_le, i_lt, i_eq, i_eq0, i_lt0, i_0le, i_0lt, i_le0, i_in1, i_cl, nI_add, pk_mul, pk_sub, i_div, i_rem, i_sh1, i_bit, i_or, i_and, i_andn, nt_le, nf_le, nt_lt, nf_lt, nt_eq, nf_eq, not_true_eq_false, and_self, and_false, false_and, eq_self, Bool.toNat_true, Bool.toNat_false, i_bool, i_bool1, Bool.false_eq_true, Bool.true_eq_false, reduceCtorEq, i_neg1, i_neg2, i_neg3, i_neg4, i_neg5, i_neg6, i_neg7, i_neg8, i_neg9, i_nega, i_negb, i_negc, i_max2, i_min2, (m_n hm)]
    exact q
  | succ m ih =>
    intro i hi
    have hin : i < Y 6 0 := by omega
    have hi5 : i < 5 := by omega
    have up : ∀ o, scn (rkM Y r) w (i + 1) = o → wpX (d + 4) mX9_byRule 78 [aR 8 0, aR k 0, aI (nI r), aI L, aI (nI w), aI s, aU, aI (nI i)] [aI (wrI o)] S P := by
      intro o h
      try simp (disch := omega) only [no0, no1, nz1, nz2, nz3, nz4, nz5, nz7, nz8, Classical.not_not, bz0, bz1, wi_nil, ld_0, ld_s, isIv_I, isLv_L, isRv_R, true_and, and_true, lset_0, lset_1, lset_s, avw_I, avw_L, avw_R, clr_cons, clr_nil, kst_0, kst_1, kstL_0, kstL_1, addk_I, pA_0, pA_s, pD_0, pD_s, wid_nil, wid_cons, rcv_c, putv_I, putv_L, List.length_cons, List.length_nil, List.set_cons_zero, List.set_cons_succ, not_false_eq_true, Nat.reduceMod, Nat.reduceDiv, Nat.reduceEqDiff, Nat.reduceLT, Nat.reduceLeDiff, Nat.reduceAdd, Nat.reduceSub, reduceIte, Nat.lt_irrefl, Nat.zero_ne_one, Nat.one_ne_zero, Nat.zero_add, List.nil_append, List.cons_append, Option.toList_some, Option.toList_none, forall_const, false_implies, true_implies, false_or, or_false, true_or, or_true, i_le, i_lt, i_eq, i_eq0, i_lt0, i_0le, i_0lt, i_le0, i_in1, i_cl, nI_add, pk_mul, pk_sub, i_div, i_rem, i_sh1, i_bit, i_or, i_and, i_andn, nt_le, nf_le, nt_lt, nf_lt, nt_eq, nf_eq, not_true_eq_false, and_self, and_false, false_and, eq_self, Bool.toNat_true, Bool.toNat_false, i_bool, i_bool1, Bool.false_eq_true, Bool.true_eq_false, reduceCtorEq, i_neg1, i_neg2, i_neg3, i_neg4, i_neg5, i_neg6, i_neg7, i_neg8, i_neg9, i_nega, i_negb, i_negc, i_max2, i_min2, wi_nil]
      repeat (
        first
        | refine s_X9_byRule_0 ?_
        | refine s_X9_byRule_9 ?_
        | refine s_X9_byRule_42 ?_
        | refine s_X9_byRule_60 ?_
        | refine s_X9_byRule_68 ?_
        | refine s_X9_byRule_71 ?_
        | refine s_X9_byRule_76 ?_
        | refine s_X9_byRule_78 ?_
        | refine s_X9_byRule_86 ?_
        | refine s_X9_byRule_93 ?_
        | refine s_X9_byRule_110 ?_
        | refine s_X9_byRule_111 ?_
        | refine s_X9_byRule_126 ?_
        | refine s_X9_byRule_127 ?_
        | refine s_X9_byRule_143 ?_
        simp (disch := omega) only [B_X9_byRule_0, wi_aload_n, wi_iconst, wi_iaload, wi_istore_n, wi_invokevirtual, cnt_8, B_X9_byRule_9, wi_istore, B_X9_byRule_14, wi_iload, wi_if_eq, wi_bipush, B_X9_byRule_26, wi_getfield, fldv_8_10, fds_8_10, wi_icmp_ge, wi_invokestatic, B_X9_byRule_42, wi_icmp_eq, wi_iload_n, B_X9_byRule_60, B_X9_byRule_68, B_X9_byRule_71, wi_goto, B_X9_byRule_76, B_X9_byRule_78, wi_iinc, B_X9_byRule_86, B_X9_byRule_93, wi_icmp_gt, wi_ishl, B_X9_byRule_110, B_X9_byRule_111, wi_ior, B_X9_byRule_126, B_X9_byRule_127, wi_isub, wi_ixor, wi_iand, B_X9_byRule_143, wi_ireturn, no0, no1, nz1, nz2, nz3, nz4, nz5, nz7, nz8, Classical.not_not, bz0, bz1, wi_nil, ld_0, ld_s, isIv_I, isLv_L, isRv_R, true_and, and_true, lset_0, lset_1, lset_s, avw_I, avw_L, avw_R, clr_cons, clr_nil, kst_0, kst_1, kstL_0, kstL_1, addk_I, pA_0, pA_s, pD_0, pD_s, wid_nil, wid_cons, rcv_c, putv_I, putv_L, List.length_cons, List.length_nil, List.set_cons_zero, List.set_cons_succ, not_false_eq_true, Nat.reduceMod, Nat.reduceDiv, Nat.reduceEqDiff, Nat.reduceLT, Nat.reduceLeDiff, Nat.reduceAdd, Nat.reduceSub, reduceIte, Nat.lt_irrefl, Nat.zero_ne_one, Nat.one_ne_zero, Nat.zero_add, List.nil_append, List.cons_append, Option.toList_some, Option.toList_none, forall_const, false_implies, true_implies, false_or, or_false, true_or, or_true, i_le, i_lt, i_eq, i_eq0, i_lt0, i_0le, i_0lt, i_le0, i_in1, i_cl, nI_add, pk_mul, pk_sub, i_div, i_rem, i_sh1, i_bit, i_or, i_and, i_andn, nt_le, nf_le, nt_lt, nf_lt, nt_eq, nf_eq, not_true_eq_false, and_self, and_false, false_and, eq_self, Bool.toNat_true, Bool.toNat_false, i_bool, i_bool1, Bool.false_eq_true, Bool.true_eq_false, reduceCtorEq, i_neg1, i_neg2, i_neg3, i_neg4, i_neg5, i_neg6, i_neg7, i_neg8, i_neg9, i_nega, i_negb, i_negc, i_max2, i_min2])
      rw [← h]
      exact ih (i + 1) (by omega)
    refine s_X9_byRule_26 ?_
    simp (disch := omega) only [B_X9_byRule_26, wi_iload, wi_aload_n, wi_getfield, fldv_8_10, fds_8_10, cnt_8, wi_icmp_ge, wi_invokestatic, no0, no1, nz1, nz2, nz3, nz4, nz5, nz7, nz8, Classical.not_not, bz0, bz1, wi_nil, ld_0, ld_s, isIv_I, isLv_L, isRv_R, true_and, and_true, lset_0, lset_1, lset_s, avw_I, avw_L, avw_R, clr_cons, clr_nil, kst_0, kst_1, kstL_0, kstL_1, addk_I, pA_0, pA_s, pD_0, pD_s, wid_nil, wid_cons, rcv_c, putv_I, putv_L, List.length_cons, List.length_nil, List.set_cons_zero, List.set_cons_succ, not_false_eq_true, Nat.reduceMod, Nat.reduceDiv, Nat.reduceEqDiff, Nat.reduceLT, Nat.reduceLeDiff, Nat.reduceAdd, Nat.reduceSub, reduceIte, Nat.lt_irrefl, Nat.zero_ne_one, Nat.one_ne_zero, Nat.zero_add, List.nil_append, List.cons_append, Option.toList_some, Option.toList_none, forall_const, false_implies, true_implies, false_or, or_false, true_or, or_true, i_le, i_lt, i_eq, i_eq0, i_lt0, i_0le, i_0lt, i_le0, i_in1, i_cl, nI_add, pk_mul, pk_sub, i_div, i_rem, i_sh1, i_bit, i_or, i_and, i_andn, nt_le, nf_le, nt_lt, nf_lt, nt_eq, nf_eq, not_true_eq_false, and_self, and_false, false_and, eq_self, Bool.toNat_true, Bool.toNat_false, i_bool, i_bool1, Bool.false_eq_true, Bool.true_eq_false, reduceCtorEq, i_neg1, i_neg2, i_neg3, i_neg4, i_neg5, i_neg6, i_neg7, i_neg8, i_neg9, i_nega, i_negb, i_negc, i_max2, i_min2, (m_n hm)]
    refine c_has (by omega) (by omega) ?_
    cases hb : w.testBit i
    · try simp (disch := omega) only [no0, no1, nz1, nz2, nz3, nz4, nz5, nz7, nz8, Classical.not_not, bz0, bz1, wi_nil, ld_0, ld_s, isIv_I, isLv_L, isRv_R, true_and, and_true, lset_0, lset_1, lset_s, avw_I, avw_L, avw_R, clr_cons, clr_nil, kst_0, kst_1, kstL_0, kstL_1, addk_I, pA_0, pA_s, pD_0, pD_s, wid_nil, wid_cons, rcv_c, putv_I, putv_L, List.length_cons, List.length_nil, List.set_cons_zero, List.set_cons_succ, not_false_eq_true, Nat.reduceMod, Nat.reduceDiv, Nat.reduceEqDiff, Nat.reduceLT, Nat.reduceLeDiff, Nat.reduceAdd, Nat.reduceSub, reduceIte, Nat.lt_irrefl, Nat.zero_ne_one, Nat.one_ne_zero, Nat.zero_add, List.nil_append, List.cons_append, Option.toList_some, Option.toList_none, forall_const, false_implies, true_implies, false_or, or_false, true_or, or_true, i_le, i_lt, i_eq, i_eq0, i_lt0, i_0le, i_0lt, i_le0, i_in1, i_cl, nI_add, pk_mul, pk_sub, i_div, i_rem, i_sh1, i_bit, i_or, i_and, i_andn, nt_le, nf_le, nt_lt, nf_lt, nt_eq, nf_eq, not_true_eq_false, and_self, and_false, false_and, eq_self, Bool.toNat_true, Bool.toNat_false, i_bool, i_bool1, Bool.false_eq_true, Bool.true_eq_false, reduceCtorEq, i_neg1, i_neg2, i_neg3, i_neg4, i_neg5, i_neg6, i_neg7, i_neg8, i_neg9, i_nega, i_negb, i_negc, i_max2, i_min2, hb, wi_nil]
      repeat (
        first
        | refine s_X9_byRule_0 ?_
        | refine s_X9_byRule_9 ?_
        | refine s_X9_byRule_42 ?_
        | refine s_X9_byRule_60 ?_
        | refine s_X9_byRule_68 ?_
        | refine s_X9_byRule_71 ?_
        | refine s_X9_byRule_76 ?_
        | refine s_X9_byRule_86 ?_
        | refine s_X9_byRule_93 ?_
        | refine s_X9_byRule_110 ?_
        | refine s_X9_byRule_111 ?_
        | refine s_X9_byRule_126 ?_
        | refine s_X9_byRule_127 ?_
        | refine s_X9_byRule_143 ?_
        simp (disch := omega) only [B_X9_byRule_0, wi_aload_n, wi_iconst, wi_iaload, wi_istore_n, wi_invokevirtual, cnt_8, B_X9_byRule_9, wi_istore, B_X9_byRule_14, wi_iload, wi_if_eq, wi_bipush, B_X9_byRule_26, wi_getfield, fldv_8_10, fds_8_10, wi_icmp_ge, wi_invokestatic, B_X9_byRule_42, wi_icmp_eq, wi_iload_n, B_X9_byRule_60, B_X9_byRule_68, B_X9_byRule_71, wi_goto, B_X9_byRule_76, B_X9_byRule_78, wi_iinc, B_X9_byRule_86, B_X9_byRule_93, wi_icmp_gt, wi_ishl, B_X9_byRule_110, B_X9_byRule_111, wi_ior, B_X9_byRule_126, B_X9_byRule_127, wi_isub, wi_ixor, wi_iand, B_X9_byRule_143, wi_ireturn, no0, no1, nz1, nz2, nz3, nz4, nz5, nz7, nz8, Classical.not_not, bz0, bz1, wi_nil, ld_0, ld_s, isIv_I, isLv_L, isRv_R, true_and, and_true, lset_0, lset_1, lset_s, avw_I, avw_L, avw_R, clr_cons, clr_nil, kst_0, kst_1, kstL_0, kstL_1, addk_I, pA_0, pA_s, pD_0, pD_s, wid_nil, wid_cons, rcv_c, putv_I, putv_L, List.length_cons, List.length_nil, List.set_cons_zero, List.set_cons_succ, not_false_eq_true, Nat.reduceMod, Nat.reduceDiv, Nat.reduceEqDiff, Nat.reduceLT, Nat.reduceLeDiff, Nat.reduceAdd, Nat.reduceSub, reduceIte, Nat.lt_irrefl, Nat.zero_ne_one, Nat.one_ne_zero, Nat.zero_add, List.nil_append, List.cons_append, Option.toList_some, Option.toList_none, forall_const, false_implies, true_implies, false_or, or_false, true_or, or_true, i_le, i_lt, i_eq, i_eq0, i_lt0, i_0le, i_0lt, i_le0, i_in1, i_cl, nI_add, pk_mul, pk_sub, i_div, i_rem, i_sh1, i_bit, i_or, i_and, i_andn, nt_le, nf_le, nt_lt, nf_lt, nt_eq, nf_eq, not_true_eq_false, and_self, and_false, false_and, eq_self, Bool.toNat_true, Bool.toNat_false, i_bool, i_bool1, Bool.false_eq_true, Bool.true_eq_false, reduceCtorEq, i_neg1, i_neg2, i_neg3, i_neg4, i_neg5, i_neg6, i_neg7, i_neg8, i_neg9, i_nega, i_negb, i_negc, i_max2, i_min2, hb])
      refine up _ ?_
      rw [scn]
      cases hs : scn (rkM Y r) w i with
      | none => simp [hb]
      | some b => simp [hb]
    · cases hs : scn (rkM Y r) w i with
      | none =>
        try simp (disch := omega) only [no0, no1, nz1, nz2, nz3, nz4, nz5, nz7, nz8, Classical.not_not, bz0, bz1, wi_nil, ld_0, ld_s, isIv_I, isLv_L, isRv_R, true_and, and_true, lset_0, lset_1, lset_s, avw_I, avw_L, avw_R, clr_cons, clr_nil, kst_0, kst_1, kstL_0, kstL_1, addk_I, pA_0, pA_s, pD_0, pD_s, wid_nil, wid_cons, rcv_c, putv_I, putv_L, List.length_cons, List.length_nil, List.set_cons_zero, List.set_cons_succ, not_false_eq_true, Nat.reduceMod, Nat.reduceDiv, Nat.reduceEqDiff, Nat.reduceLT, Nat.reduceLeDiff, Nat.reduceAdd, Nat.reduceSub, reduceIte, Nat.lt_irrefl, Nat.zero_ne_one, Nat.one_ne_zero, Nat.zero_add, List.nil_append, List.cons_append, Option.toList_some, Option.toList_none, forall_const, false_implies, true_implies, false_or, or_false, true_or, or_true, i_le, i_lt, i_eq, i_eq0, i_lt0, i_0le, i_0lt, i_le0, i_in1, i_cl, nI_add, pk_mul, pk_sub, i_div, i_rem, i_sh1, i_bit, i_or, i_and, i_andn, nt_le, nf_le, nt_lt, nf_lt, nt_eq, nf_eq, not_true_eq_false, and_self, and_false, false_and, eq_self, Bool.toNat_true, Bool.toNat_false, i_bool, i_bool1, Bool.false_eq_true, Bool.true_eq_false, reduceCtorEq, i_neg1, i_neg2, i_neg3, i_neg4, i_neg5, i_neg6, i_neg7, i_neg8, i_neg9, i_nega, i_negb, i_negc, i_max2, i_min2, hb, wrI, wi_nil]
        repeat (
          first
          | refine s_X9_byRule_0 ?_
          | refine s_X9_byRule_9 ?_
          | refine s_X9_byRule_42 ?_
          | refine s_X9_byRule_60 ?_
          | refine s_X9_byRule_68 ?_
          | refine s_X9_byRule_71 ?_
          | refine s_X9_byRule_76 ?_
          | refine s_X9_byRule_86 ?_
          | refine s_X9_byRule_93 ?_
          | refine s_X9_byRule_110 ?_
          | refine s_X9_byRule_111 ?_
          | refine s_X9_byRule_126 ?_
          | refine s_X9_byRule_127 ?_
          | refine s_X9_byRule_143 ?_
          simp (disch := omega) only [B_X9_byRule_0, wi_aload_n, wi_iconst, wi_iaload, wi_istore_n, wi_invokevirtual, cnt_8, B_X9_byRule_9, wi_istore, B_X9_byRule_14, wi_iload, wi_if_eq, wi_bipush, B_X9_byRule_26, wi_getfield, fldv_8_10, fds_8_10, wi_icmp_ge, wi_invokestatic, B_X9_byRule_42, wi_icmp_eq, wi_iload_n, B_X9_byRule_60, B_X9_byRule_68, B_X9_byRule_71, wi_goto, B_X9_byRule_76, B_X9_byRule_78, wi_iinc, B_X9_byRule_86, B_X9_byRule_93, wi_icmp_gt, wi_ishl, B_X9_byRule_110, B_X9_byRule_111, wi_ior, B_X9_byRule_126, B_X9_byRule_127, wi_isub, wi_ixor, wi_iand, B_X9_byRule_143, wi_ireturn, no0, no1, nz1, nz2, nz3, nz4, nz5, nz7, nz8, Classical.not_not, bz0, bz1, wi_nil, ld_0, ld_s, isIv_I, isLv_L, isRv_R, true_and, and_true, lset_0, lset_1, lset_s, avw_I, avw_L, avw_R, clr_cons, clr_nil, kst_0, kst_1, kstL_0, kstL_1, addk_I, pA_0, pA_s, pD_0, pD_s, wid_nil, wid_cons, rcv_c, putv_I, putv_L, List.length_cons, List.length_nil, List.set_cons_zero, List.set_cons_succ, not_false_eq_true, Nat.reduceMod, Nat.reduceDiv, Nat.reduceEqDiff, Nat.reduceLT, Nat.reduceLeDiff, Nat.reduceAdd, Nat.reduceSub, reduceIte, Nat.lt_irrefl, Nat.zero_ne_one, Nat.one_ne_zero, Nat.zero_add, List.nil_append, List.cons_append, Option.toList_some, Option.toList_none, forall_const, false_implies, true_implies, false_or, or_false, true_or, or_true, i_le, i_lt, i_eq, i_eq0, i_lt0, i_0le, i_0lt, i_le0, i_in1, i_cl, nI_add, pk_mul, pk_sub, i_div, i_rem, i_sh1, i_bit, i_or, i_and, i_andn, nt_le, nf_le, nt_lt, nf_lt, nt_eq, nf_eq, not_true_eq_false, and_self, and_false, false_and, eq_self, Bool.toNat_true, Bool.toNat_false, i_bool, i_bool1, Bool.false_eq_true, Bool.true_eq_false, reduceCtorEq, i_neg1, i_neg2, i_neg3, i_neg4, i_neg5, i_neg6, i_neg7, i_neg8, i_neg9, i_nega, i_negb, i_negc, i_max2, i_min2, hb, wrI])
        exact up (some i) (by rw [scn, hs]; simp [hb])
      | some b =>
        have hsb := scn_in hs
        have hb5 : b < 5 := by omega
        try simp (disch := omega) only [no0, no1, nz1, nz2, nz3, nz4, nz5, nz7, nz8, Classical.not_not, bz0, bz1, wi_nil, ld_0, ld_s, isIv_I, isLv_L, isRv_R, true_and, and_true, lset_0, lset_1, lset_s, avw_I, avw_L, avw_R, clr_cons, clr_nil, kst_0, kst_1, kstL_0, kstL_1, addk_I, pA_0, pA_s, pD_0, pD_s, wid_nil, wid_cons, rcv_c, putv_I, putv_L, List.length_cons, List.length_nil, List.set_cons_zero, List.set_cons_succ, not_false_eq_true, Nat.reduceMod, Nat.reduceDiv, Nat.reduceEqDiff, Nat.reduceLT, Nat.reduceLeDiff, Nat.reduceAdd, Nat.reduceSub, reduceIte, Nat.lt_irrefl, Nat.zero_ne_one, Nat.one_ne_zero, Nat.zero_add, List.nil_append, List.cons_append, Option.toList_some, Option.toList_none, forall_const, false_implies, true_implies, false_or, or_false, true_or, or_true, i_le, i_lt, i_eq, i_eq0, i_lt0, i_0le, i_0lt, i_le0, i_in1, i_cl, nI_add, pk_mul, pk_sub, i_div, i_rem, i_sh1, i_bit, i_or, i_and, i_andn, nt_le, nf_le, nt_lt, nf_lt, nt_eq, nf_eq, not_true_eq_false, and_self, and_false, false_and, eq_self, Bool.toNat_true, Bool.toNat_false, i_bool, i_bool1, Bool.false_eq_true, Bool.true_eq_false, reduceCtorEq, i_neg1, i_neg2, i_neg3, i_neg4, i_neg5, i_neg6, i_neg7, i_neg8, i_neg9, i_nega, i_negb, i_negc, i_max2, i_min2, hb, wrI, k9, wi_nil]
        repeat (
          first
          | refine s_X9_byRule_0 ?_
          | refine s_X9_byRule_9 ?_
          | refine s_X9_byRule_42 ?_
          | refine s_X9_byRule_60 ?_
          | refine s_X9_byRule_68 ?_
          | refine s_X9_byRule_71 ?_
          | refine s_X9_byRule_76 ?_
          | refine s_X9_byRule_86 ?_
          | refine s_X9_byRule_93 ?_
          | refine s_X9_byRule_110 ?_
          | refine s_X9_byRule_111 ?_
          | refine s_X9_byRule_126 ?_
          | refine s_X9_byRule_127 ?_
          | refine s_X9_byRule_143 ?_
          simp (disch := omega) only [B_X9_byRule_0, wi_aload_n, wi_iconst, wi_iaload, wi_istore_n, wi_invokevirtual, cnt_8, B_X9_byRule_9, wi_istore, B_X9_byRule_14, wi_iload, wi_if_eq, wi_bipush, B_X9_byRule_26, wi_getfield, fldv_8_10, fds_8_10, wi_icmp_ge, wi_invokestatic, B_X9_byRule_42, wi_icmp_eq, wi_iload_n, B_X9_byRule_60, B_X9_byRule_68, B_X9_byRule_71, wi_goto, B_X9_byRule_76, B_X9_byRule_78, wi_iinc, B_X9_byRule_86, B_X9_byRule_93, wi_icmp_gt, wi_ishl, B_X9_byRule_110, B_X9_byRule_111, wi_ior, B_X9_byRule_126, B_X9_byRule_127, wi_isub, wi_ixor, wi_iand, B_X9_byRule_143, wi_ireturn, no0, no1, nz1, nz2, nz3, nz4, nz5, nz7, nz8, Classical.not_not, bz0, bz1, wi_nil, ld_0, ld_s, isIv_I, isLv_L, isRv_R, true_and, and_true, lset_0, lset_1, lset_s, avw_I, avw_L, avw_R, clr_cons, clr_nil, kst_0, kst_1, kstL_0, kstL_1, addk_I, pA_0, pA_s, pD_0, pD_s, wid_nil, wid_cons, rcv_c, putv_I, putv_L, List.length_cons, List.length_nil, List.set_cons_zero, List.set_cons_succ, not_false_eq_true, Nat.reduceMod, Nat.reduceDiv, Nat.reduceEqDiff, Nat.reduceLT, Nat.reduceLeDiff, Nat.reduceAdd, Nat.reduceSub, reduceIte, Nat.lt_irrefl, Nat.zero_ne_one, Nat.one_ne_zero, Nat.zero_add, List.nil_append, List.cons_append, Option.toList_some, Option.toList_none, forall_const, false_implies, true_implies, false_or, or_false, true_or, or_true, i_le, i_lt, i_eq, i_eq0, i_lt0, i_0le, i_0lt, i_le0, i_in1, i_cl, nI_add, pk_mul, pk_sub, i_div, i_rem, i_sh1, i_bit, i_or, i_and, i_andn, nt_le, nf_le, nt_lt, nf_lt, nt_eq, nf_eq, not_true_eq_false, and_self, and_false, false_and, eq_self, Bool.toNat_true, Bool.toNat_false, i_bool, i_bool1, Bool.false_eq_true, Bool.true_eq_false, reduceCtorEq, i_neg1, i_neg2, i_neg3, i_neg4, i_neg5, i_neg6, i_neg7, i_neg8, i_neg9, i_nega, i_negb, i_negc, i_max2, i_min2, hb, wrI, k9])
        refine c_rankOn hk hm ho hB hr hin ?_
        try simp (disch := omega) only [no0, no1, nz1, nz2, nz3, nz4, nz5, nz7, nz8, Classical.not_not, bz0, bz1, wi_nil, ld_0, ld_s, isIv_I, isLv_L, isRv_R, true_and, and_true, lset_0, lset_1, lset_s, avw_I, avw_L, avw_R, clr_cons, clr_nil, kst_0, kst_1, kstL_0, kstL_1, addk_I, pA_0, pA_s, pD_0, pD_s, wid_nil, wid_cons, rcv_c, putv_I, putv_L, List.length_cons, List.length_nil, List.set_cons_zero, List.set_cons_succ, not_false_eq_true, Nat.reduceMod, Nat.reduceDiv, Nat.reduceEqDiff, Nat.reduceLT, Nat.reduceLeDiff, Nat.reduceAdd, Nat.reduceSub, reduceIte, Nat.lt_irrefl, Nat.zero_ne_one, Nat.one_ne_zero, Nat.zero_add, List.nil_append, List.cons_append, Option.toList_some, Option.toList_none, forall_const, false_implies, true_implies, false_or, or_false, true_or, or_true, i_le, i_lt, i_eq, i_eq0, i_lt0, i_0le, i_0lt, i_le0, i_in1, i_cl, nI_add, pk_mul, pk_sub, i_div, i_rem, i_sh1, i_bit, i_or, i_and, i_andn, nt_le, nf_le, nt_lt, nf_lt, nt_eq, nf_eq, not_true_eq_false, and_self, and_false, false_and, eq_self, Bool.toNat_true, Bool.toNat_false, i_bool, i_bool1, Bool.false_eq_true, Bool.true_eq_false, reduceCtorEq, i_neg1, i_neg2, i_neg3, i_neg4, i_neg5, i_neg6, i_neg7, i_neg8, i_neg9, i_nega, i_negb, i_negc, i_max2, i_min2, hb, k9, wi_nil]
        repeat (
          first
          | refine s_X9_byRule_0 ?_
          | refine s_X9_byRule_9 ?_
          | refine s_X9_byRule_42 ?_
          | refine s_X9_byRule_60 ?_
          | refine s_X9_byRule_68 ?_
          | refine s_X9_byRule_71 ?_
          | refine s_X9_byRule_76 ?_
          | refine s_X9_byRule_86 ?_
          | refine s_X9_byRule_93 ?_
          | refine s_X9_byRule_110 ?_
          | refine s_X9_byRule_111 ?_
          | refine s_X9_byRule_126 ?_
          | refine s_X9_byRule_127 ?_
          | refine s_X9_byRule_143 ?_
          simp (disch := omega) only [B_X9_byRule_0, wi_aload_n, wi_iconst, wi_iaload, wi_istore_n, wi_invokevirtual, cnt_8, B_X9_byRule_9, wi_istore, B_X9_byRule_14, wi_iload, wi_if_eq, wi_bipush, B_X9_byRule_26, wi_getfield, fldv_8_10, fds_8_10, wi_icmp_ge, wi_invokestatic, B_X9_byRule_42, wi_icmp_eq, wi_iload_n, B_X9_byRule_60, B_X9_byRule_68, B_X9_byRule_71, wi_goto, B_X9_byRule_76, B_X9_byRule_78, wi_iinc, B_X9_byRule_86, B_X9_byRule_93, wi_icmp_gt, wi_ishl, B_X9_byRule_110, B_X9_byRule_111, wi_ior, B_X9_byRule_126, B_X9_byRule_127, wi_isub, wi_ixor, wi_iand, B_X9_byRule_143, wi_ireturn, no0, no1, nz1, nz2, nz3, nz4, nz5, nz7, nz8, Classical.not_not, bz0, bz1, wi_nil, ld_0, ld_s, isIv_I, isLv_L, isRv_R, true_and, and_true, lset_0, lset_1, lset_s, avw_I, avw_L, avw_R, clr_cons, clr_nil, kst_0, kst_1, kstL_0, kstL_1, addk_I, pA_0, pA_s, pD_0, pD_s, wid_nil, wid_cons, rcv_c, putv_I, putv_L, List.length_cons, List.length_nil, List.set_cons_zero, List.set_cons_succ, not_false_eq_true, Nat.reduceMod, Nat.reduceDiv, Nat.reduceEqDiff, Nat.reduceLT, Nat.reduceLeDiff, Nat.reduceAdd, Nat.reduceSub, reduceIte, Nat.lt_irrefl, Nat.zero_ne_one, Nat.one_ne_zero, Nat.zero_add, List.nil_append, List.cons_append, Option.toList_some, Option.toList_none, forall_const, false_implies, true_implies, false_or, or_false, true_or, or_true, i_le, i_lt, i_eq, i_eq0, i_lt0, i_0le, i_0lt, i_le0, i_in1, i_cl, nI_add, pk_mul, pk_sub, i_div, i_rem, i_sh1, i_bit, i_or, i_and, i_andn, nt_le, nf_le, nt_lt, nf_lt, nt_eq, nf_eq, not_true_eq_false, and_self, and_false, false_and, eq_self, Bool.toNat_true, Bool.toNat_false, i_bool, i_bool1, Bool.false_eq_true, Bool.true_eq_false, reduceCtorEq, i_neg1, i_neg2, i_neg3, i_neg4, i_neg5, i_neg6, i_neg7, i_neg8, i_neg9, i_nega, i_negb, i_negc, i_max2, i_min2, hb, k9])
        refine c_rankOn hk hm ho hB hr (by omega) ?_
        try simp (disch := omega) only [no0, no1, nz1, nz2, nz3, nz4, nz5, nz7, nz8, Classical.not_not, bz0, bz1, wi_nil, ld_0, ld_s, isIv_I, isLv_L, isRv_R, true_and, and_true, lset_0, lset_1, lset_s, avw_I, avw_L, avw_R, clr_cons, clr_nil, kst_0, kst_1, kstL_0, kstL_1, addk_I, pA_0, pA_s, pD_0, pD_s, wid_nil, wid_cons, rcv_c, putv_I, putv_L, List.length_cons, List.length_nil, List.set_cons_zero, List.set_cons_succ, not_false_eq_true, Nat.reduceMod, Nat.reduceDiv, Nat.reduceEqDiff, Nat.reduceLT, Nat.reduceLeDiff, Nat.reduceAdd, Nat.reduceSub, reduceIte, Nat.lt_irrefl, Nat.zero_ne_one, Nat.one_ne_zero, Nat.zero_add, List.nil_append, List.cons_append, Option.toList_some, Option.toList_none, forall_const, false_implies, true_implies, false_or, or_false, true_or, or_true, i_le, i_lt, i_eq, i_eq0, i_lt0, i_0le, i_0lt, i_le0, i_in1, i_cl, nI_add, pk_mul, pk_sub, i_div, i_rem, i_sh1, i_bit, i_or, i_and, i_andn, nt_le, nf_le, nt_lt, nf_lt, nt_eq, nf_eq, not_true_eq_false, and_self, and_false, false_and, eq_self, Bool.toNat_true, Bool.toNat_false, i_bool, i_bool1, Bool.false_eq_true, Bool.true_eq_false, reduceCtorEq, i_neg1, i_neg2, i_neg3, i_neg4, i_neg5, i_neg6, i_neg7, i_neg8, i_neg9, i_nega, i_negb, i_negc, i_max2, i_min2, (rkM_le ho hB hin (show b < Y 6 0 by omega)), wi_nil]
        repeat (
          first
          | refine s_X9_byRule_0 ?_
          | refine s_X9_byRule_9 ?_
          | refine s_X9_byRule_42 ?_
          | refine s_X9_byRule_60 ?_
          | refine s_X9_byRule_68 ?_
          | refine s_X9_byRule_71 ?_
          | refine s_X9_byRule_76 ?_
          | refine s_X9_byRule_86 ?_
          | refine s_X9_byRule_93 ?_
          | refine s_X9_byRule_110 ?_
          | refine s_X9_byRule_111 ?_
          | refine s_X9_byRule_126 ?_
          | refine s_X9_byRule_127 ?_
          | refine s_X9_byRule_143 ?_
          simp (disch := omega) only [B_X9_byRule_0, wi_aload_n, wi_iconst, wi_iaload, wi_istore_n, wi_invokevirtual, cnt_8, B_X9_byRule_9, wi_istore, B_X9_byRule_14, wi_iload, wi_if_eq, wi_bipush, B_X9_byRule_26, wi_getfield, fldv_8_10, fds_8_10, wi_icmp_ge, wi_invokestatic, B_X9_byRule_42, wi_icmp_eq, wi_iload_n, B_X9_byRule_60, B_X9_byRule_68, B_X9_byRule_71, wi_goto, B_X9_byRule_76, B_X9_byRule_78, wi_iinc, B_X9_byRule_86, B_X9_byRule_93, wi_icmp_gt, wi_ishl, B_X9_byRule_110, B_X9_byRule_111, wi_ior, B_X9_byRule_126, B_X9_byRule_127, wi_isub, wi_ixor, wi_iand, B_X9_byRule_143, wi_ireturn, no0, no1, nz1, nz2, nz3, nz4, nz5, nz7, nz8, Classical.not_not, bz0, bz1, wi_nil, ld_0, ld_s, isIv_I, isLv_L, isRv_R, true_and, and_true, lset_0, lset_1, lset_s, avw_I, avw_L, avw_R, clr_cons, clr_nil, kst_0, kst_1, kstL_0, kstL_1, addk_I, pA_0, pA_s, pD_0, pD_s, wid_nil, wid_cons, rcv_c, putv_I, putv_L, List.length_cons, List.length_nil, List.set_cons_zero, List.set_cons_succ, not_false_eq_true, Nat.reduceMod, Nat.reduceDiv, Nat.reduceEqDiff, Nat.reduceLT, Nat.reduceLeDiff, Nat.reduceAdd, Nat.reduceSub, reduceIte, Nat.lt_irrefl, Nat.zero_ne_one, Nat.one_ne_zero, Nat.zero_add, List.nil_append, List.cons_append, Option.toList_some, Option.toList_none, forall_const, false_implies, true_implies, false_or, or_false, true_or, or_true, i_le, i_lt, i_eq, i_eq0, i_lt0, i_0le, i_0lt, i_le0, i_in1, i_cl, nI_add, pk_mul, pk_sub, i_div, i_rem, i_sh1, i_bit, i_or, i_and, i_andn, nt_le, nf_le, nt_lt, nf_lt, nt_eq, nf_eq, not_true_eq_false, and_self, and_false, false_and, eq_self, Bool.toNat_true, Bool.toNat_false, i_bool, i_bool1, Bool.false_eq_true, Bool.true_eq_false, reduceCtorEq, i_neg1, i_neg2, i_neg3, i_neg4, i_neg5, i_neg6, i_neg7, i_neg8, i_neg9, i_nega, i_negb, i_negc, i_max2, i_min2, (rkM_le ho hB hin (show b < Y 6 0 by omega))])
        by_cases hl : rkM Y r i < rkM Y r b
        · refine ⟨fun h => absurd hl h, fun _ => ?_⟩
          try simp (disch := omega) only [no0, no1, nz1, nz2, nz3, nz4, nz5, nz7, nz8, Classical.not_not, bz0, bz1, wi_nil, ld_0, ld_s, isIv_I, isLv_L, isRv_R, true_and, and_true, lset_0, lset_1, lset_s, avw_I, avw_L, avw_R, clr_cons, clr_nil, kst_0, kst_1, kstL_0, kstL_1, addk_I, pA_0, pA_s, pD_0, pD_s, wid_nil, wid_cons, rcv_c, putv_I, putv_L, List.length_cons, List.length_nil, List.set_cons_zero, List.set_cons_succ, not_false_eq_true, Nat.reduceMod, Nat.reduceDiv, Nat.reduceEqDiff, Nat.reduceLT, Nat.reduceLeDiff, Nat.reduceAdd, Nat.reduceSub, reduceIte, Nat.lt_irrefl, Nat.zero_ne_one, Nat.one_ne_zero, Nat.zero_add, List.nil_append, List.cons_append, Option.toList_some, Option.toList_none, forall_const, false_implies, true_implies, false_or, or_false, true_or, or_true, i_le, i_lt, i_eq, i_eq0, i_lt0, i_0le, i_0lt, i_le0, i_in1, i_cl, nI_add, pk_mul, pk_sub, i_div, i_rem, i_sh1, i_bit, i_or, i_and, i_andn, nt_le, nf_le, nt_lt, nf_lt, nt_eq, nf_eq, not_true_eq_false, and_self, and_false, false_and, eq_self, Bool.toNat_true, Bool.toNat_false, i_bool, i_bool1, Bool.false_eq_true, Bool.true_eq_false, reduceCtorEq, i_neg1, i_neg2, i_neg3, i_neg4, i_neg5, i_neg6, i_neg7, i_neg8, i_neg9, i_nega, i_negb, i_negc, i_max2, i_min2, wi_nil]
          repeat (
            first
            | refine s_X9_byRule_0 ?_
            | refine s_X9_byRule_9 ?_
            | refine s_X9_byRule_42 ?_
            | refine s_X9_byRule_60 ?_
            | refine s_X9_byRule_68 ?_
            | refine s_X9_byRule_71 ?_
            | refine s_X9_byRule_76 ?_
            | refine s_X9_byRule_86 ?_
            | refine s_X9_byRule_93 ?_
            | refine s_X9_byRule_110 ?_
            | refine s_X9_byRule_111 ?_
            | refine s_X9_byRule_126 ?_
            | refine s_X9_byRule_127 ?_
            | refine s_X9_byRule_143 ?_
            simp (disch := omega) only [B_X9_byRule_0, wi_aload_n, wi_iconst, wi_iaload, wi_istore_n, wi_invokevirtual, cnt_8, B_X9_byRule_9, wi_istore, B_X9_byRule_14, wi_iload, wi_if_eq, wi_bipush, B_X9_byRule_26, wi_getfield, fldv_8_10, fds_8_10, wi_icmp_ge, wi_invokestatic, B_X9_byRule_42, wi_icmp_eq, wi_iload_n, B_X9_byRule_60, B_X9_byRule_68, B_X9_byRule_71, wi_goto, B_X9_byRule_76, B_X9_byRule_78, wi_iinc, B_X9_byRule_86, B_X9_byRule_93, wi_icmp_gt, wi_ishl, B_X9_byRule_110, B_X9_byRule_111, wi_ior, B_X9_byRule_126, B_X9_byRule_127, wi_isub, wi_ixor, wi_iand, B_X9_byRule_143, wi_ireturn, no0, no1, nz1, nz2, nz3, nz4, nz5, nz7, nz8, Classical.not_not, bz0, bz1, wi_nil, ld_0, ld_s, isIv_I, isLv_L, isRv_R, true_and, and_true, lset_0, lset_1, lset_s, avw_I, avw_L, avw_R, clr_cons, clr_nil, kst_0, kst_1, kstL_0, kstL_1, addk_I, pA_0, pA_s, pD_0, pD_s, wid_nil, wid_cons, rcv_c, putv_I, putv_L, List.length_cons, List.length_nil, List.set_cons_zero, List.set_cons_succ, not_false_eq_true, Nat.reduceMod, Nat.reduceDiv, Nat.reduceEqDiff, Nat.reduceLT, Nat.reduceLeDiff, Nat.reduceAdd, Nat.reduceSub, reduceIte, Nat.lt_irrefl, Nat.zero_ne_one, Nat.one_ne_zero, Nat.zero_add, List.nil_append, List.cons_append, Option.toList_some, Option.toList_none, forall_const, false_implies, true_implies, false_or, or_false, true_or, or_true, i_le, i_lt, i_eq, i_eq0, i_lt0, i_0le, i_0lt, i_le0, i_in1, i_cl, nI_add, pk_mul, pk_sub, i_div, i_rem, i_sh1, i_bit, i_or, i_and, i_andn, nt_le, nf_le, nt_lt, nf_lt, nt_eq, nf_eq, not_true_eq_false, and_self, and_false, false_and, eq_self, Bool.toNat_true, Bool.toNat_false, i_bool, i_bool1, Bool.false_eq_true, Bool.true_eq_false, reduceCtorEq, i_neg1, i_neg2, i_neg3, i_neg4, i_neg5, i_neg6, i_neg7, i_neg8, i_neg9, i_nega, i_negb, i_negc, i_max2, i_min2])
          exact up (some i) (by rw [scn, hs]; simp [hb, hl])
        · refine ⟨fun _ => ?_, fun h => absurd h hl⟩
          try simp (disch := omega) only [no0, no1, nz1, nz2, nz3, nz4, nz5, nz7, nz8, Classical.not_not, bz0, bz1, wi_nil, ld_0, ld_s, isIv_I, isLv_L, isRv_R, true_and, and_true, lset_0, lset_1, lset_s, avw_I, avw_L, avw_R, clr_cons, clr_nil, kst_0, kst_1, kstL_0, kstL_1, addk_I, pA_0, pA_s, pD_0, pD_s, wid_nil, wid_cons, rcv_c, putv_I, putv_L, List.length_cons, List.length_nil, List.set_cons_zero, List.set_cons_succ, not_false_eq_true, Nat.reduceMod, Nat.reduceDiv, Nat.reduceEqDiff, Nat.reduceLT, Nat.reduceLeDiff, Nat.reduceAdd, Nat.reduceSub, reduceIte, Nat.lt_irrefl, Nat.zero_ne_one, Nat.one_ne_zero, Nat.zero_add, List.nil_append, List.cons_append, Option.toList_some, Option.toList_none, forall_const, false_implies, true_implies, false_or, or_false, true_or, or_true, i_le, i_lt, i_eq, i_eq0, i_lt0, i_0le, i_0lt, i_le0, i_in1, i_cl, nI_add, pk_mul, pk_sub, i_div, i_rem, i_sh1, i_bit, i_or, i_and, i_andn, nt_le, nf_le, nt_lt, nf_lt, nt_eq, nf_eq, not_true_eq_false, and_self, and_false, false_and, eq_self, Bool.toNat_true, Bool.toNat_false, i_bool, i_bool1, Bool.false_eq_true, Bool.true_eq_false, reduceCtorEq, i_neg1, i_neg2, i_neg3, i_neg4, i_neg5, i_neg6, i_neg7, i_neg8, i_neg9, i_nega, i_negb, i_negc, i_max2, i_min2, wi_nil]
          repeat (
            first
            | refine s_X9_byRule_0 ?_
            | refine s_X9_byRule_9 ?_
            | refine s_X9_byRule_42 ?_
            | refine s_X9_byRule_60 ?_
            | refine s_X9_byRule_68 ?_
            | refine s_X9_byRule_71 ?_
            | refine s_X9_byRule_76 ?_
            | refine s_X9_byRule_86 ?_
            | refine s_X9_byRule_93 ?_
            | refine s_X9_byRule_110 ?_
            | refine s_X9_byRule_111 ?_
            | refine s_X9_byRule_126 ?_
            | refine s_X9_byRule_127 ?_
            | refine s_X9_byRule_143 ?_
            simp (disch := omega) only [B_X9_byRule_0, wi_aload_n, wi_iconst, wi_iaload, wi_istore_n, wi_invokevirtual, cnt_8, B_X9_byRule_9, wi_istore, B_X9_byRule_14, wi_iload, wi_if_eq, wi_bipush, B_X9_byRule_26, wi_getfield, fldv_8_10, fds_8_10, wi_icmp_ge, wi_invokestatic, B_X9_byRule_42, wi_icmp_eq, wi_iload_n, B_X9_byRule_60, B_X9_byRule_68, B_X9_byRule_71, wi_goto, B_X9_byRule_76, B_X9_byRule_78, wi_iinc, B_X9_byRule_86, B_X9_byRule_93, wi_icmp_gt, wi_ishl, B_X9_byRule_110, B_X9_byRule_111, wi_ior, B_X9_byRule_126, B_X9_byRule_127, wi_isub, wi_ixor, wi_iand, B_X9_byRule_143, wi_ireturn, no0, no1, nz1, nz2, nz3, nz4, nz5, nz7, nz8, Classical.not_not, bz0, bz1, wi_nil, ld_0, ld_s, isIv_I, isLv_L, isRv_R, true_and, and_true, lset_0, lset_1, lset_s, avw_I, avw_L, avw_R, clr_cons, clr_nil, kst_0, kst_1, kstL_0, kstL_1, addk_I, pA_0, pA_s, pD_0, pD_s, wid_nil, wid_cons, rcv_c, putv_I, putv_L, List.length_cons, List.length_nil, List.set_cons_zero, List.set_cons_succ, not_false_eq_true, Nat.reduceMod, Nat.reduceDiv, Nat.reduceEqDiff, Nat.reduceLT, Nat.reduceLeDiff, Nat.reduceAdd, Nat.reduceSub, reduceIte, Nat.lt_irrefl, Nat.zero_ne_one, Nat.one_ne_zero, Nat.zero_add, List.nil_append, List.cons_append, Option.toList_some, Option.toList_none, forall_const, false_implies, true_implies, false_or, or_false, true_or, or_true, i_le, i_lt, i_eq, i_eq0, i_lt0, i_0le, i_0lt, i_le0, i_in1, i_cl, nI_add, pk_mul, pk_sub, i_div, i_rem, i_sh1, i_bit, i_or, i_and, i_andn, nt_le, nf_le, nt_lt, nf_lt, nt_eq, nf_eq, not_true_eq_false, and_self, and_false, false_and, eq_self, Bool.toNat_true, Bool.toNat_false, i_bool, i_bool1, Bool.false_eq_true, Bool.true_eq_false, reduceCtorEq, i_neg1, i_neg2, i_neg3, i_neg4, i_neg5, i_neg6, i_neg7, i_neg8, i_neg9, i_nega, i_negb, i_negc, i_max2, i_min2])
          exact up (some b) (by rw [scn, hs]; simp [hl])
theorem bct_rm {w b : Nat} (hw : w < 32) (hb : b < 5) (h : w.testBit b = true) : bct (w &&& (31 - 2 ^ b)) + 1 = bct w := fin2 (p := fun w b => w.testBit b = true → bct (w &&& (31 - 2 ^ b)) + 1 = bct w) (n := 32) (m := 5) (by decide +kernel) hw hb h
theorem bct_z {w : Nat} (hw : w < 32) (h : bct w = 0) : w = 0 := fin1 (p := fun w => bct w = 0 → w = 0) (n := 32) (by decide +kernel) hw h
theorem l_byRule {r : Nat} (hk : k = 40 ∨ k = 41) (hm : YrM S k Y) (ho : YOk B Y) (hB : B < 1000) (hr : r < 4) : ∀ (m w s : Nat), bct w ≤ m → w < 32 → s < 32 → (∀ i, w.testBit i = true → s.testBit i = false ∧ i < Y 6 0) → csum (ycz Y) 5 s ≤ Y 6 2 → P (some (aI (nI (chs (ycz Y) (rkY Y r) (Y 6 0) (Y 6 2) m w s)))) S → wpX (d + 4) mX9_byRule 14 [aR 8 0, aR k 0, aI (nI r), aI (nI (Y 6 2 - csum (ycz Y) 5 s)), aI (nI w), aI (nI s), aU, aU] [] S P := by
  obtain ⟨kc, kT, kL, kK, k9, kA⟩ := ofk hk
  have hn5 := ho.1.1
  have hw40 := ho.1.2.2.1
  have done : ∀ (m s : Nat) (L : Int32), P (some (aI (nI (chs (ycz Y) (rkY Y r) (Y 6 0) (Y 6 2) m 0 s)))) S → wpX (d + 4) mX9_byRule 14 [aR 8 0, aR k 0, aI (nI r), aI L, aI (nI 0), aI (nI s), aU, aU] [] S P := by
    intro m s L q
    rw [chs_none (scn_zero _)] at q
    try simp (disch := omega) only [no0, no1, nz1, nz2, nz3, nz4, nz5, nz7, nz8, Classical.not_not, bz0, bz1, wi_nil, ld_0, ld_s, isIv_I, isLv_L, isRv_R, true_and, and_true, lset_0, lset_1, lset_s, avw_I, avw_L, avw_R, clr_cons, clr_nil, kst_0, kst_1, kstL_0, kstL_1, addk_I, pA_0, pA_s, pD_0, pD_s, wid_nil, wid_cons, rcv_c, putv_I, putv_L, List.length_cons, List.length_nil, List.set_cons_zero, List.set_cons_succ, not_false_eq_true, Nat.reduceMod, Nat.reduceDiv, Nat.reduceEqDiff, Nat.reduceLT, Nat.reduceLeDiff, Nat.reduceAdd, Nat.reduceSub, reduceIte, Nat.lt_irrefl, Nat.zero_ne_one, Nat.one_ne_zero, Nat.zero_add, List.nil_append, List.cons_append, Option.toList_some, Option.toList_none, forall_const, false_implies, true_implies, false_or, or_false, true_or, or_true, i_le, i_lt, i_eq, i_eq0, i_lt0, i_0le, i_0lt, i_le0, i_in1, i_cl, nI_add, pk_mul, pk_sub, i_div, i_rem, i_sh1, i_bit, i_or, i_and, i_andn, nt_le, nf_le, nt_lt, nf_lt, nt_eq, nf_eq, not_true_eq_false, and_self, and_false, false_and, eq_self, Bool.toNat_true, Bool.toNat_false, i_bool, i_bool1, Bool.false_eq_true, Bool.true_eq_false, reduceCtorEq, i_neg1, i_neg2, i_neg3, i_neg4, i_neg5, i_neg6, i_neg7, i_neg8, i_neg9, i_nega, i_negb, i_negc, i_max2, i_min2, wi_nil]
    repeat (
      first
      | refine s_X9_byRule_0 ?_
      | refine s_X9_byRule_9 ?_
      | refine s_X9_byRule_14 ?_
      | refine s_X9_byRule_42 ?_
      | refine s_X9_byRule_60 ?_
      | refine s_X9_byRule_68 ?_
      | refine s_X9_byRule_71 ?_
      | refine s_X9_byRule_76 ?_
      | refine s_X9_byRule_78 ?_
      | refine s_X9_byRule_86 ?_
      | refine s_X9_byRule_93 ?_
      | refine s_X9_byRule_110 ?_
      | refine s_X9_byRule_111 ?_
      | refine s_X9_byRule_126 ?_
      | refine s_X9_byRule_127 ?_
      | refine s_X9_byRule_143 ?_
      simp (disch := omega) only [B_X9_byRule_0, wi_aload_n, wi_iconst, wi_iaload, wi_istore_n, wi_invokevirtual, cnt_8, B_X9_byRule_9, wi_istore, B_X9_byRule_14, wi_iload, wi_if_eq, wi_bipush, B_X9_byRule_26, wi_getfield, fldv_8_10, fds_8_10, wi_icmp_ge, wi_invokestatic, B_X9_byRule_42, wi_icmp_eq, wi_iload_n, B_X9_byRule_60, B_X9_byRule_68, B_X9_byRule_71, wi_goto, B_X9_byRule_76, B_X9_byRule_78, wi_iinc, B_X9_byRule_86, B_X9_byRule_93, wi_icmp_gt, wi_ishl, B_X9_byRule_110, B_X9_byRule_111, wi_ior, B_X9_byRule_126, B_X9_byRule_127, wi_isub, wi_ixor, wi_iand, B_X9_byRule_143, wi_ireturn, no0, no1, nz1, nz2, nz3, nz4, nz5, nz7, nz8, Classical.not_not, bz0, bz1, wi_nil, ld_0, ld_s, isIv_I, isLv_L, isRv_R, true_and, and_true, lset_0, lset_1, lset_s, avw_I, avw_L, avw_R, clr_cons, clr_nil, kst_0, kst_1, kstL_0, kstL_1, addk_I, pA_0, pA_s, pD_0, pD_s, wid_nil, wid_cons, rcv_c, putv_I, putv_L, List.length_cons, List.length_nil, List.set_cons_zero, List.set_cons_succ, not_false_eq_true, Nat.reduceMod, Nat.reduceDiv, Nat.reduceEqDiff, Nat.reduceLT, Nat.reduceLeDiff, Nat.reduceAdd, Nat.reduceSub, reduceIte, Nat.lt_irrefl, Nat.zero_ne_one, Nat.one_ne_zero, Nat.zero_add, List.nil_append, List.cons_append, Option.toList_some, Option.toList_none, forall_const, false_implies, true_implies, false_or, or_false, true_or, or_true, i_le, i_lt, i_eq, i_eq0, i_lt0, i_0le, i_0lt, i_le0, i_in1, i_cl, nI_add, pk_mul, pk_sub, i_div, i_rem, i_sh1, i_bit, i_or, i_and, i_andn, nt_le, nf_le, nt_lt, nf_lt, nt_eq, nf_eq, not_true_eq_false, and_self, and_false, false_and, eq_self, Bool.toNat_true, Bool.toNat_false, i_bool, i_bool1, Bool.false_eq_true, Bool.true_eq_false, reduceCtorEq, i_neg1, i_neg2, i_neg3, i_neg4, i_neg5, i_neg6, i_neg7, i_neg8, i_neg9, i_nega, i_negb, i_negc, i_max2, i_min2])
    exact q
  intro m
  induction m with
  | zero =>
    intro w s hw1 hw hs hd hc q
    have e := bct_z hw (by omega)
    subst e
    exact done 0 s _ q
  | succ m ih =>
    intro w s hw1 hw hs hd hc q
    rcases Nat.eq_zero_or_pos w with e | e
    · subst e
      exact done _ s _ q
    · have hsome : ∃ b, scn (rkY Y r) w (Y 6 0) = some b := by
        cases h : scn (rkY Y r) w (Y 6 0) with
        | some b => exact ⟨b, rfl⟩
        | none =>
          have hno := scn_none h
          refine absurd e ?_
          have : w = 0 := by
            apply Nat.eq_of_testBit_eq
            intro i
            rw [Nat.zero_testBit]
            cases hb : w.testBit i
            · rfl
            · have := hno i (hd i hb).2
              rw [this] at hb
              cases hb
          omega
      obtain ⟨b, hsc⟩ := hsome
      have hb := scn_in hsc
      have hb5 : b < 5 := by omega
      have hsb := (hd b hb.2).1
      have hyc := yc_le ho hb.1
      have ez : ycz Y b = yc Y b := by unfold ycz; rw [if_pos hb.1]
      have hbr := bct_rm hw hb5 hb.2
      have hin := in_lt hs hb5
      have h2b : 2 ^ b < 32 := Nat.pow_lt_pow_right (a := 2) (by decide) hb5
      rw [chs_some hsc, ez] at q
      have ec : csum (ycz Y) 5 (s ||| 2 ^ b) = csum (ycz Y) 5 s + yc Y b := by rw [csum_ins hsb, if_pos hb5, ez]
      have hd2 : ∀ s2, (s2 = s ∨ s2 = s ||| 2 ^ b) → ∀ i, (w &&& (31 - 2 ^ b)).testBit i = true → s2.testBit i = false ∧ i < Y 6 0 := by
        intro s2 hs2 i hi
        rw [rm_bit hw hb5] at hi
        simp only [Bool.and_eq_true, Bool.not_eq_true', decide_eq_false_iff_not] at hi
        have h0 := hd i hi.1
        refine ⟨?_, h0.2⟩
        rcases hs2 with h | h
        · rw [h]; exact h0.1
        · rw [h, in_bit, h0.1]; simp [hi.2]
      refine s_X9_byRule_14 ?_
      simp (disch := omega) only [B_X9_byRule_14, wi_iload, wi_if_eq, wi_bipush, wi_istore, wi_iconst, no0, no1, nz1, nz2, nz3, nz4, nz5, nz7, nz8, Classical.not_not, bz0, bz1, wi_nil, ld_0, ld_s, isIv_I, isLv_L, isRv_R, true_and, and_true, lset_0, lset_1, lset_s, avw_I, avw_L, avw_R, clr_cons, clr_nil, kst_0, kst_1, kstL_0, kstL_1, addk_I, pA_0, pA_s, pD_0, pD_s, wid_nil, wid_cons, rcv_c, putv_I, putv_L, List.length_cons, List.length_nil, List.set_cons_zero, List.set_cons_succ, not_false_eq_true, Nat.reduceMod, Nat.reduceDiv, Nat.reduceEqDiff, Nat.reduceLT, Nat.reduceLeDiff, Nat.reduceAdd, Nat.reduceSub, reduceIte, Nat.lt_irrefl, Nat.zero_ne_one, Nat.one_ne_zero, Nat.zero_add, List.nil_append, List.cons_append, Option.toList_some, Option.toList_none, forall_const, false_implies, true_implies, false_or, or_false, true_or, or_true, i_le, i_lt, i_eq, i_eq0, i_lt0, i_0le, i_0lt, i_le0, i_in1, i_cl, nI_add, pk_mul, pk_sub, i_div, i_rem, i_sh1, i_bit, i_or, i_and, i_andn, nt_le, nf_le, nt_lt, nf_lt, nt_eq, nf_eq, not_true_eq_false, and_self, and_false, false_and, eq_self, Bool.toNat_true, Bool.toNat_false, i_bool, i_bool1, Bool.false_eq_true, Bool.true_eq_false, reduceCtorEq, i_neg1, i_neg2, i_neg3, i_neg4, i_neg5, i_neg6, i_neg7, i_neg8, i_neg9, i_nega, i_negb, i_negc, i_max2, i_min2]
      refine l_mfirst hk hm ho hB hr hw ?_ (Y 6 0) 0 (by omega)
      rw [scn_M, hsc]
      try simp (disch := omega) only [no0, no1, nz1, nz2, nz3, nz4, nz5, nz7, nz8, Classical.not_not, bz0, bz1, wi_nil, ld_0, ld_s, isIv_I, isLv_L, isRv_R, true_and, and_true, lset_0, lset_1, lset_s, avw_I, avw_L, avw_R, clr_cons, clr_nil, kst_0, kst_1, kstL_0, kstL_1, addk_I, pA_0, pA_s, pD_0, pD_s, wid_nil, wid_cons, rcv_c, putv_I, putv_L, List.length_cons, List.length_nil, List.set_cons_zero, List.set_cons_succ, not_false_eq_true, Nat.reduceMod, Nat.reduceDiv, Nat.reduceEqDiff, Nat.reduceLT, Nat.reduceLeDiff, Nat.reduceAdd, Nat.reduceSub, reduceIte, Nat.lt_irrefl, Nat.zero_ne_one, Nat.one_ne_zero, Nat.zero_add, List.nil_append, List.cons_append, Option.toList_some, Option.toList_none, forall_const, false_implies, true_implies, false_or, or_false, true_or, or_true, i_le, i_lt, i_eq, i_eq0, i_lt0, i_0le, i_0lt, i_le0, i_in1, i_cl, nI_add, pk_mul, pk_sub, i_div, i_rem, i_sh1, i_bit, i_or, i_and, i_andn, nt_le, nf_le, nt_lt, nf_lt, nt_eq, nf_eq, not_true_eq_false, and_self, and_false, false_and, eq_self, Bool.toNat_true, Bool.toNat_false, i_bool, i_bool1, Bool.false_eq_true, Bool.true_eq_false, reduceCtorEq, i_neg1, i_neg2, i_neg3, i_neg4, i_neg5, i_neg6, i_neg7, i_neg8, i_neg9, i_nega, i_negb, i_negc, i_max2, i_min2, wrI, k9, wi_nil]
      repeat (
        first
        | refine s_X9_byRule_0 ?_
        | refine s_X9_byRule_9 ?_
        | refine s_X9_byRule_42 ?_
        | refine s_X9_byRule_60 ?_
        | refine s_X9_byRule_68 ?_
        | refine s_X9_byRule_71 ?_
        | refine s_X9_byRule_76 ?_
        | refine s_X9_byRule_78 ?_
        | refine s_X9_byRule_86 ?_
        | refine s_X9_byRule_93 ?_
        | refine s_X9_byRule_110 ?_
        | refine s_X9_byRule_111 ?_
        | refine s_X9_byRule_126 ?_
        | refine s_X9_byRule_127 ?_
        | refine s_X9_byRule_143 ?_
        simp (disch := omega) only [B_X9_byRule_0, wi_aload_n, wi_iconst, wi_iaload, wi_istore_n, wi_invokevirtual, cnt_8, B_X9_byRule_9, wi_istore, B_X9_byRule_14, wi_iload, wi_if_eq, wi_bipush, B_X9_byRule_26, wi_getfield, fldv_8_10, fds_8_10, wi_icmp_ge, wi_invokestatic, B_X9_byRule_42, wi_icmp_eq, wi_iload_n, B_X9_byRule_60, B_X9_byRule_68, B_X9_byRule_71, wi_goto, B_X9_byRule_76, B_X9_byRule_78, wi_iinc, B_X9_byRule_86, B_X9_byRule_93, wi_icmp_gt, wi_ishl, B_X9_byRule_110, B_X9_byRule_111, wi_ior, B_X9_byRule_126, B_X9_byRule_127, wi_isub, wi_ixor, wi_iand, B_X9_byRule_143, wi_ireturn, no0, no1, nz1, nz2, nz3, nz4, nz5, nz7, nz8, Classical.not_not, bz0, bz1, wi_nil, ld_0, ld_s, isIv_I, isLv_L, isRv_R, true_and, and_true, lset_0, lset_1, lset_s, avw_I, avw_L, avw_R, clr_cons, clr_nil, kst_0, kst_1, kstL_0, kstL_1, addk_I, pA_0, pA_s, pD_0, pD_s, wid_nil, wid_cons, rcv_c, putv_I, putv_L, List.length_cons, List.length_nil, List.set_cons_zero, List.set_cons_succ, not_false_eq_true, Nat.reduceMod, Nat.reduceDiv, Nat.reduceEqDiff, Nat.reduceLT, Nat.reduceLeDiff, Nat.reduceAdd, Nat.reduceSub, reduceIte, Nat.lt_irrefl, Nat.zero_ne_one, Nat.one_ne_zero, Nat.zero_add, List.nil_append, List.cons_append, Option.toList_some, Option.toList_none, forall_const, false_implies, true_implies, false_or, or_false, true_or, or_true, i_le, i_lt, i_eq, i_eq0, i_lt0, i_0le, i_0lt, i_le0, i_in1, i_cl, nI_add, pk_mul, pk_sub, i_div, i_rem, i_sh1, i_bit, i_or, i_and, i_andn, nt_le, nf_le, nt_lt, nf_lt, nt_eq, nf_eq, not_true_eq_false, and_self, and_false, false_and, eq_self, Bool.toNat_true, Bool.toNat_false, i_bool, i_bool1, Bool.false_eq_true, Bool.true_eq_false, reduceCtorEq, i_neg1, i_neg2, i_neg3, i_neg4, i_neg5, i_neg6, i_neg7, i_neg8, i_neg9, i_nega, i_negb, i_negc, i_max2, i_min2, wrI, k9])
      refine c_costOn hk hm ho (by omega) hb.1 ?_
      have hcs := csum_b ho 5 s (by omega)
      by_cases hle : csum (ycz Y) 5 s + yc Y b ≤ Y 6 2
      · rw [if_pos hle] at q
        try simp (disch := omega) only [no0, no1, nz1, nz2, nz3, nz4, nz5, nz7, nz8, Classical.not_not, bz0, bz1, wi_nil, ld_0, ld_s, isIv_I, isLv_L, isRv_R, true_and, and_true, lset_0, lset_1, lset_s, avw_I, avw_L, avw_R, clr_cons, clr_nil, kst_0, kst_1, kstL_0, kstL_1, addk_I, pA_0, pA_s, pD_0, pD_s, wid_nil, wid_cons, rcv_c, putv_I, putv_L, List.length_cons, List.length_nil, List.set_cons_zero, List.set_cons_succ, not_false_eq_true, Nat.reduceMod, Nat.reduceDiv, Nat.reduceEqDiff, Nat.reduceLT, Nat.reduceLeDiff, Nat.reduceAdd, Nat.reduceSub, reduceIte, Nat.lt_irrefl, Nat.zero_ne_one, Nat.one_ne_zero, Nat.zero_add, List.nil_append, List.cons_append, Option.toList_some, Option.toList_none, forall_const, false_implies, true_implies, false_or, or_false, true_or, or_true, i_le, i_lt, i_eq, i_eq0, i_lt0, i_0le, i_0lt, i_le0, i_in1, i_cl, nI_add, pk_mul, pk_sub, i_div, i_rem, i_sh1, i_bit, i_or, i_and, i_andn, nt_le, nf_le, nt_lt, nf_lt, nt_eq, nf_eq, not_true_eq_false, and_self, and_false, false_and, eq_self, Bool.toNat_true, Bool.toNat_false, i_bool, i_bool1, Bool.false_eq_true, Bool.true_eq_false, reduceCtorEq, i_neg1, i_neg2, i_neg3, i_neg4, i_neg5, i_neg6, i_neg7, i_neg8, i_neg9, i_nega, i_negb, i_negc, i_max2, i_min2, (i_rm hw hb5), wi_nil]
        repeat (
          first
          | refine s_X9_byRule_0 ?_
          | refine s_X9_byRule_9 ?_
          | refine s_X9_byRule_42 ?_
          | refine s_X9_byRule_60 ?_
          | refine s_X9_byRule_68 ?_
          | refine s_X9_byRule_71 ?_
          | refine s_X9_byRule_76 ?_
          | refine s_X9_byRule_78 ?_
          | refine s_X9_byRule_86 ?_
          | refine s_X9_byRule_93 ?_
          | refine s_X9_byRule_110 ?_
          | refine s_X9_byRule_111 ?_
          | refine s_X9_byRule_126 ?_
          | refine s_X9_byRule_127 ?_
          | refine s_X9_byRule_143 ?_
          simp (disch := omega) only [B_X9_byRule_0, wi_aload_n, wi_iconst, wi_iaload, wi_istore_n, wi_invokevirtual, cnt_8, B_X9_byRule_9, wi_istore, B_X9_byRule_14, wi_iload, wi_if_eq, wi_bipush, B_X9_byRule_26, wi_getfield, fldv_8_10, fds_8_10, wi_icmp_ge, wi_invokestatic, B_X9_byRule_42, wi_icmp_eq, wi_iload_n, B_X9_byRule_60, B_X9_byRule_68, B_X9_byRule_71, wi_goto, B_X9_byRule_76, B_X9_byRule_78, wi_iinc, B_X9_byRule_86, B_X9_byRule_93, wi_icmp_gt, wi_ishl, B_X9_byRule_110, B_X9_byRule_111, wi_ior, B_X9_byRule_126, B_X9_byRule_127, wi_isub, wi_ixor, wi_iand, B_X9_byRule_143, wi_ireturn, no0, no1, nz1, nz2, nz3, nz4, nz5, nz7, nz8, Classical.not_not, bz0, bz1, wi_nil, ld_0, ld_s, isIv_I, isLv_L, isRv_R, true_and, and_true, lset_0, lset_1, lset_s, avw_I, avw_L, avw_R, clr_cons, clr_nil, kst_0, kst_1, kstL_0, kstL_1, addk_I, pA_0, pA_s, pD_0, pD_s, wid_nil, wid_cons, rcv_c, putv_I, putv_L, List.length_cons, List.length_nil, List.set_cons_zero, List.set_cons_succ, not_false_eq_true, Nat.reduceMod, Nat.reduceDiv, Nat.reduceEqDiff, Nat.reduceLT, Nat.reduceLeDiff, Nat.reduceAdd, Nat.reduceSub, reduceIte, Nat.lt_irrefl, Nat.zero_ne_one, Nat.one_ne_zero, Nat.zero_add, List.nil_append, List.cons_append, Option.toList_some, Option.toList_none, forall_const, false_implies, true_implies, false_or, or_false, true_or, or_true, i_le, i_lt, i_eq, i_eq0, i_lt0, i_0le, i_0lt, i_le0, i_in1, i_cl, nI_add, pk_mul, pk_sub, i_div, i_rem, i_sh1, i_bit, i_or, i_and, i_andn, nt_le, nf_le, nt_lt, nf_lt, nt_eq, nf_eq, not_true_eq_false, and_self, and_false, false_and, eq_self, Bool.toNat_true, Bool.toNat_false, i_bool, i_bool1, Bool.false_eq_true, Bool.true_eq_false, reduceCtorEq, i_neg1, i_neg2, i_neg3, i_neg4, i_neg5, i_neg6, i_neg7, i_neg8, i_neg9, i_nega, i_negb, i_negc, i_max2, i_min2, (i_rm hw hb5)])
        rw [show Y 6 2 - csum (ycz Y) 5 s - yc Y b = Y 6 2 - csum (ycz Y) 5 (s ||| 2 ^ b) by rw [ec]; omega]
        exact ih _ _ (by omega) (rm_lt hw) hin (hd2 _ (Or.inr rfl)) (by omega) q
      · rw [if_neg hle] at q
        try simp (disch := omega) only [no0, no1, nz1, nz2, nz3, nz4, nz5, nz7, nz8, Classical.not_not, bz0, bz1, wi_nil, ld_0, ld_s, isIv_I, isLv_L, isRv_R, true_and, and_true, lset_0, lset_1, lset_s, avw_I, avw_L, avw_R, clr_cons, clr_nil, kst_0, kst_1, kstL_0, kstL_1, addk_I, pA_0, pA_s, pD_0, pD_s, wid_nil, wid_cons, rcv_c, putv_I, putv_L, List.length_cons, List.length_nil, List.set_cons_zero, List.set_cons_succ, not_false_eq_true, Nat.reduceMod, Nat.reduceDiv, Nat.reduceEqDiff, Nat.reduceLT, Nat.reduceLeDiff, Nat.reduceAdd, Nat.reduceSub, reduceIte, Nat.lt_irrefl, Nat.zero_ne_one, Nat.one_ne_zero, Nat.zero_add, List.nil_append, List.cons_append, Option.toList_some, Option.toList_none, forall_const, false_implies, true_implies, false_or, or_false, true_or, or_true, i_le, i_lt, i_eq, i_eq0, i_lt0, i_0le, i_0lt, i_le0, i_in1, i_cl, nI_add, pk_mul, pk_sub, i_div, i_rem, i_sh1, i_bit, i_or, i_and, i_andn, nt_le, nf_le, nt_lt, nf_lt, nt_eq, nf_eq, not_true_eq_false, and_self, and_false, false_and, eq_self, Bool.toNat_true, Bool.toNat_false, i_bool, i_bool1, Bool.false_eq_true, Bool.true_eq_false, reduceCtorEq, i_neg1, i_neg2, i_neg3, i_neg4, i_neg5, i_neg6, i_neg7, i_neg8, i_neg9, i_nega, i_negb, i_negc, i_max2, i_min2, (i_rm hw hb5), Nat.or_zero, Nat.sub_zero, wi_nil]
        repeat (
          first
          | refine s_X9_byRule_0 ?_
          | refine s_X9_byRule_9 ?_
          | refine s_X9_byRule_42 ?_
          | refine s_X9_byRule_60 ?_
          | refine s_X9_byRule_68 ?_
          | refine s_X9_byRule_71 ?_
          | refine s_X9_byRule_76 ?_
          | refine s_X9_byRule_78 ?_
          | refine s_X9_byRule_86 ?_
          | refine s_X9_byRule_93 ?_
          | refine s_X9_byRule_110 ?_
          | refine s_X9_byRule_111 ?_
          | refine s_X9_byRule_126 ?_
          | refine s_X9_byRule_127 ?_
          | refine s_X9_byRule_143 ?_
          simp (disch := omega) only [B_X9_byRule_0, wi_aload_n, wi_iconst, wi_iaload, wi_istore_n, wi_invokevirtual, cnt_8, B_X9_byRule_9, wi_istore, B_X9_byRule_14, wi_iload, wi_if_eq, wi_bipush, B_X9_byRule_26, wi_getfield, fldv_8_10, fds_8_10, wi_icmp_ge, wi_invokestatic, B_X9_byRule_42, wi_icmp_eq, wi_iload_n, B_X9_byRule_60, B_X9_byRule_68, B_X9_byRule_71, wi_goto, B_X9_byRule_76, B_X9_byRule_78, wi_iinc, B_X9_byRule_86, B_X9_byRule_93, wi_icmp_gt, wi_ishl, B_X9_byRule_110, B_X9_byRule_111, wi_ior, B_X9_byRule_126, B_X9_byRule_127, wi_isub, wi_ixor, wi_iand, B_X9_byRule_143, wi_ireturn, no0, no1, nz1, nz2, nz3, nz4, nz5, nz7, nz8, Classical.not_not, bz0, bz1, wi_nil, ld_0, ld_s, isIv_I, isLv_L, isRv_R, true_and, and_true, lset_0, lset_1, lset_s, avw_I, avw_L, avw_R, clr_cons, clr_nil, kst_0, kst_1, kstL_0, kstL_1, addk_I, pA_0, pA_s, pD_0, pD_s, wid_nil, wid_cons, rcv_c, putv_I, putv_L, List.length_cons, List.length_nil, List.set_cons_zero, List.set_cons_succ, not_false_eq_true, Nat.reduceMod, Nat.reduceDiv, Nat.reduceEqDiff, Nat.reduceLT, Nat.reduceLeDiff, Nat.reduceAdd, Nat.reduceSub, reduceIte, Nat.lt_irrefl, Nat.zero_ne_one, Nat.one_ne_zero, Nat.zero_add, List.nil_append, List.cons_append, Option.toList_some, Option.toList_none, forall_const, false_implies, true_implies, false_or, or_false, true_or, or_true, i_le, i_lt, i_eq, i_eq0, i_lt0, i_0le, i_0lt, i_le0, i_in1, i_cl, nI_add, pk_mul, pk_sub, i_div, i_rem, i_sh1, i_bit, i_or, i_and, i_andn, nt_le, nf_le, nt_lt, nf_lt, nt_eq, nf_eq, not_true_eq_false, and_self, and_false, false_and, eq_self, Bool.toNat_true, Bool.toNat_false, i_bool, i_bool1, Bool.false_eq_true, Bool.true_eq_false, reduceCtorEq, i_neg1, i_neg2, i_neg3, i_neg4, i_neg5, i_neg6, i_neg7, i_neg8, i_neg9, i_nega, i_negb, i_negc, i_max2, i_min2, (i_rm hw hb5), Nat.or_zero, Nat.sub_zero])
        exact ih _ _ (by omega) (rm_lt hw) hs (hd2 _ (Or.inl rfl)) hc q
theorem bct_le_n : ∀ n, n ≤ 5 → ∀ w, w < 2 ^ n → bct w ≤ n := fun n hn w hw => by
  have h1 : bct w = csum (fun _ => 1) n w := csum_high 6 n w (by omega) hw
  have h2 := csum_le (f := fun _ => 1) (b := 1) n w (fun _ _ => Nat.le_refl 1)
  omega
theorem c_byRule {r : Nat} (hk : k = 40 ∨ k = 41) (hm : YrM S k Y) (ho : YOk B Y) (hB : B < 1000) (hr : r < 4) (q : P (some (aI (nI (chY Y r)))) S) : wpM (d + 5) mX9_byRule [aR 8 0, aR k 0, aI (nI r)] S P := by
  obtain ⟨kc, kT, kL, kK, k9, kA⟩ := ofk hk
  have hn5 := ho.1.1
  have hw40 := ho.1.2.2.1
  have hyl := yop_lt2 (Y := Y)
  refine x_entry (ls2 := [aR 8 0, aR k 0, aI (nI r), aU, aU, aU, aU, aU]) (Nat.le_of_ble_eq_true rfl) pl_9 rfl (Nat.le_of_ble_eq_true rfl) ?_
  try simp (disch := omega) only [no0, no1, nz1, nz2, nz3, nz4, nz5, nz7, nz8, Classical.not_not, bz0, bz1, wi_nil, ld_0, ld_s, isIv_I, isLv_L, isRv_R, true_and, and_true, lset_0, lset_1, lset_s, avw_I, avw_L, avw_R, clr_cons, clr_nil, kst_0, kst_1, kstL_0, kstL_1, addk_I, pA_0, pA_s, pD_0, pD_s, wid_nil, wid_cons, rcv_c, putv_I, putv_L, List.length_cons, List.length_nil, List.set_cons_zero, List.set_cons_succ, not_false_eq_true, Nat.reduceMod, Nat.reduceDiv, Nat.reduceEqDiff, Nat.reduceLT, Nat.reduceLeDiff, Nat.reduceAdd, Nat.reduceSub, reduceIte, Nat.lt_irrefl, Nat.zero_ne_one, Nat.one_ne_zero, Nat.zero_add, List.nil_append, List.cons_append, Option.toList_some, Option.toList_none, forall_const, false_implies, true_implies, false_or, or_false, true_or, or_true, i_le, i_lt, i_eq, i_eq0, i_lt0, i_0le, i_0lt, i_le0, i_in1, i_cl, nI_add, pk_mul, pk_sub, i_div, i_rem, i_sh1, i_bit, i_or, i_and, i_andn, nt_le, nf_le, nt_lt, nf_lt, nt_eq, nf_eq, not_true_eq_false, and_self, and_false, false_and, eq_self, Bool.toNat_true, Bool.toNat_false, i_bool, i_bool1, Bool.false_eq_true, Bool.true_eq_false, reduceCtorEq, i_neg1, i_neg2, i_neg3, i_neg4, i_neg5, i_neg6, i_neg7, i_neg8, i_neg9, i_nega, i_negb, i_negc, i_max2, i_min2, (m_will hm), kc, kT, kL, kK, k9, kA, wi_nil]
  repeat (
    first
    | refine s_X9_byRule_0 ?_
    | refine s_X9_byRule_9 ?_
    | refine s_X9_byRule_42 ?_
    | refine s_X9_byRule_60 ?_
    | refine s_X9_byRule_68 ?_
    | refine s_X9_byRule_71 ?_
    | refine s_X9_byRule_76 ?_
    | refine s_X9_byRule_78 ?_
    | refine s_X9_byRule_86 ?_
    | refine s_X9_byRule_93 ?_
    | refine s_X9_byRule_110 ?_
    | refine s_X9_byRule_111 ?_
    | refine s_X9_byRule_126 ?_
    | refine s_X9_byRule_127 ?_
    | refine s_X9_byRule_143 ?_
    simp (disch := omega) only [B_X9_byRule_0, wi_aload_n, wi_iconst, wi_iaload, wi_istore_n, wi_invokevirtual, cnt_8, B_X9_byRule_9, wi_istore, B_X9_byRule_14, wi_iload, wi_if_eq, wi_bipush, B_X9_byRule_26, wi_getfield, fldv_8_10, fds_8_10, wi_icmp_ge, wi_invokestatic, B_X9_byRule_42, wi_icmp_eq, wi_iload_n, B_X9_byRule_60, B_X9_byRule_68, B_X9_byRule_71, wi_goto, B_X9_byRule_76, B_X9_byRule_78, wi_iinc, B_X9_byRule_86, B_X9_byRule_93, wi_icmp_gt, wi_ishl, B_X9_byRule_110, B_X9_byRule_111, wi_ior, B_X9_byRule_126, B_X9_byRule_127, wi_isub, wi_ixor, wi_iand, B_X9_byRule_143, wi_ireturn, no0, no1, nz1, nz2, nz3, nz4, nz5, nz7, nz8, Classical.not_not, bz0, bz1, wi_nil, ld_0, ld_s, isIv_I, isLv_L, isRv_R, true_and, and_true, lset_0, lset_1, lset_s, avw_I, avw_L, avw_R, clr_cons, clr_nil, kst_0, kst_1, kstL_0, kstL_1, addk_I, pA_0, pA_s, pD_0, pD_s, wid_nil, wid_cons, rcv_c, putv_I, putv_L, List.length_cons, List.length_nil, List.set_cons_zero, List.set_cons_succ, not_false_eq_true, Nat.reduceMod, Nat.reduceDiv, Nat.reduceEqDiff, Nat.reduceLT, Nat.reduceLeDiff, Nat.reduceAdd, Nat.reduceSub, reduceIte, Nat.lt_irrefl, Nat.zero_ne_one, Nat.one_ne_zero, Nat.zero_add, List.nil_append, List.cons_append, Option.toList_some, Option.toList_none, forall_const, false_implies, true_implies, false_or, or_false, true_or, or_true, i_le, i_lt, i_eq, i_eq0, i_lt0, i_0le, i_0lt, i_le0, i_in1, i_cl, nI_add, pk_mul, pk_sub, i_div, i_rem, i_sh1, i_bit, i_or, i_and, i_andn, nt_le, nf_le, nt_lt, nf_lt, nt_eq, nf_eq, not_true_eq_false, and_self, and_false, false_and, eq_self, Bool.toNat_true, Bool.toNat_false, i_bool, i_bool1, Bool.false_eq_true, Bool.true_eq_false, reduceCtorEq, i_neg1, i_neg2, i_neg3, i_neg4, i_neg5, i_neg6, i_neg7, i_neg8, i_neg9, i_nega, i_negb, i_negc, i_max2, i_min2, (m_will hm), kc, kT, kL, kK, k9, kA])
  refine c_there hk hm hn5 (yg_lt ho) ?_
  try simp (disch := omega) only [no0, no1, nz1, nz2, nz3, nz4, nz5, nz7, nz8, Classical.not_not, bz0, bz1, wi_nil, ld_0, ld_s, isIv_I, isLv_L, isRv_R, true_and, and_true, lset_0, lset_1, lset_s, avw_I, avw_L, avw_R, clr_cons, clr_nil, kst_0, kst_1, kstL_0, kstL_1, addk_I, pA_0, pA_s, pD_0, pD_s, wid_nil, wid_cons, rcv_c, putv_I, putv_L, List.length_cons, List.length_nil, List.set_cons_zero, List.set_cons_succ, not_false_eq_true, Nat.reduceMod, Nat.reduceDiv, Nat.reduceEqDiff, Nat.reduceLT, Nat.reduceLeDiff, Nat.reduceAdd, Nat.reduceSub, reduceIte, Nat.lt_irrefl, Nat.zero_ne_one, Nat.one_ne_zero, Nat.zero_add, List.nil_append, List.cons_append, Option.toList_some, Option.toList_none, forall_const, false_implies, true_implies, false_or, or_false, true_or, or_true, i_le, i_lt, i_eq, i_eq0, i_lt0, i_0le, i_0lt, i_le0, i_in1, i_cl, nI_add, pk_mul, pk_sub, i_div, i_rem, i_sh1, i_bit, i_or, i_and, i_andn, nt_le, nf_le, nt_lt, nf_lt, nt_eq, nf_eq, not_true_eq_false, and_self, and_false, false_and, eq_self, Bool.toNat_true, Bool.toNat_false, i_bool, i_bool1, Bool.false_eq_true, Bool.true_eq_false, reduceCtorEq, i_neg1, i_neg2, i_neg3, i_neg4, i_neg5, i_neg6, i_neg7, i_neg8, i_neg9, i_nega, i_negb, i_negc, i_max2, i_min2, wi_nil]
  repeat (
    first
    | refine s_X9_byRule_0 ?_
    | refine s_X9_byRule_9 ?_
    | refine s_X9_byRule_42 ?_
    | refine s_X9_byRule_60 ?_
    | refine s_X9_byRule_68 ?_
    | refine s_X9_byRule_71 ?_
    | refine s_X9_byRule_76 ?_
    | refine s_X9_byRule_78 ?_
    | refine s_X9_byRule_86 ?_
    | refine s_X9_byRule_93 ?_
    | refine s_X9_byRule_110 ?_
    | refine s_X9_byRule_111 ?_
    | refine s_X9_byRule_126 ?_
    | refine s_X9_byRule_127 ?_
    | refine s_X9_byRule_143 ?_
    simp (disch := omega) only [B_X9_byRule_0, wi_aload_n, wi_iconst, wi_iaload, wi_istore_n, wi_invokevirtual, cnt_8, B_X9_byRule_9, wi_istore, B_X9_byRule_14, wi_iload, wi_if_eq, wi_bipush, B_X9_byRule_26, wi_getfield, fldv_8_10, fds_8_10, wi_icmp_ge, wi_invokestatic, B_X9_byRule_42, wi_icmp_eq, wi_iload_n, B_X9_byRule_60, B_X9_byRule_68, B_X9_byRule_71, wi_goto, B_X9_byRule_76, B_X9_byRule_78, wi_iinc, B_X9_byRule_86, B_X9_byRule_93, wi_icmp_gt, wi_ishl, B_X9_byRule_110, B_X9_byRule_111, wi_ior, B_X9_byRule_126, B_X9_byRule_127, wi_isub, wi_ixor, wi_iand, B_X9_byRule_143, wi_ireturn, no0, no1, nz1, nz2, nz3, nz4, nz5, nz7, nz8, Classical.not_not, bz0, bz1, wi_nil, ld_0, ld_s, isIv_I, isLv_L, isRv_R, true_and, and_true, lset_0, lset_1, lset_s, avw_I, avw_L, avw_R, clr_cons, clr_nil, kst_0, kst_1, kstL_0, kstL_1, addk_I, pA_0, pA_s, pD_0, pD_s, wid_nil, wid_cons, rcv_c, putv_I, putv_L, List.length_cons, List.length_nil, List.set_cons_zero, List.set_cons_succ, not_false_eq_true, Nat.reduceMod, Nat.reduceDiv, Nat.reduceEqDiff, Nat.reduceLT, Nat.reduceLeDiff, Nat.reduceAdd, Nat.reduceSub, reduceIte, Nat.lt_irrefl, Nat.zero_ne_one, Nat.one_ne_zero, Nat.zero_add, List.nil_append, List.cons_append, Option.toList_some, Option.toList_none, forall_const, false_implies, true_implies, false_or, or_false, true_or, or_true, i_le, i_lt, i_eq, i_eq0, i_lt0, i_0le, i_0lt, i_le0, i_in1, i_cl, nI_add, pk_mul, pk_sub, i_div, i_rem, i_sh1, i_bit, i_or, i_and, i_andn, nt_le, nf_le, nt_lt, nf_lt, nt_eq, nf_eq, not_true_eq_false, and_self, and_false, false_and, eq_self, Bool.toNat_true, Bool.toNat_false, i_bool, i_bool1, Bool.false_eq_true, Bool.true_eq_false, reduceCtorEq, i_neg1, i_neg2, i_neg3, i_neg4, i_neg5, i_neg6, i_neg7, i_neg8, i_neg9, i_nega, i_negb, i_negc, i_max2, i_min2])
  have e0 : csum (ycz Y) 5 0 = 0 := csum_high 5 0 0 (by decide) (by decide)
  have := l_byRule (d := d) (P := P) hk hm ho hB hr (Y 6 0) (yop Y) 0 (bct_le_n _ hn5 _ hyl) (yop_lt hn5) (by decide) (fun i hi => ⟨Nat.zero_testBit i, ?_⟩) (by omega) q
  · rw [e0, Nat.sub_zero] at this
    exact this
  · rcases Nat.lt_or_ge i 5 with a | a
    · rw [yop_bit ho a] at hi
      simp at hi
      exact hi.1
    · rw [hi_bit (yop_lt hn5) a] at hi
      cases hi
/-- a copy of a row -/
theorem l_copyNow {S0 : MS} (q : ∀ S2, (∀ p, p < 19 → gA S2 41 0 p = gA S0 40 0 p) → FA 41 S0 S2 → P none S2) : ∀ (m p : Nat) (S : MS), p + m = 19 → (∀ t, t < p → gA S 41 0 t = gA S0 40 0 t) → FA 41 S0 S → wpX d mX9_copyNow 2 [aR 8 0, aI (nI p)] [] S P := by
  intro m
  induction m with
  | zero =>
    intro p S hp h hf
    try simp (disch := omega) only [no0, no1, nz1, nz2, nz3, nz4, nz5, nz7, nz8, Classical.not_not, bz0, bz1, wi_nil, ld_0, ld_s, isIv_I, isLv_L, isRv_R, true_and, and_true, lset_0, lset_1, lset_s, avw_I, avw_L, avw_R, clr_cons, clr_nil, kst_0, kst_1, kstL_0, kstL_1, addk_I, pA_0, pA_s, pD_0, pD_s, wid_nil, wid_cons, rcv_c, putv_I, putv_L, List.length_cons, List.length_nil, List.set_cons_zero, List.set_cons_succ, not_false_eq_true, Nat.reduceMod, Nat.reduceDiv, Nat.reduceEqDiff, Nat.reduceLT, Nat.reduceLeDiff, Nat.reduceAdd, Nat.reduceSub, reduceIte, Nat.lt_irrefl, Nat.zero_ne_one, Nat.one_ne_zero, Nat.zero_add, List.nil_append, List.cons_append, Option.toList_some, Option.toList_none, forall_const, false_implies, true_implies, false_or, or_false, true_or, or_true, i_le, i_lt, i_eq, i_eq0, i_lt0, i_0le, i_0lt, i_le0, i_in1, i_cl, nI_add, pk_mul, pk_sub, i_div, i_rem, i_sh1, i_bit, i_or, i_and, i_andn, nt_le, nf_le, nt_lt, nf_lt, nt_eq, nf_eq, not_true_eq_false, and_self, and_false, false_and, eq_self, Bool.toNat_true, Bool.toNat_false, i_bool, i_bool1, Bool.false_eq_true, Bool.true_eq_false, reduceCtorEq, i_neg1, i_neg2, i_neg3, i_neg4, i_neg5, i_neg6, i_neg7, i_neg8, i_neg9, i_nega, i_negb, i_negc, i_max2, i_min2, wi_nil]
    repeat (
      first
      | refine s_X9_copyNow_0 ?_
      | refine s_X9_copyNow_2 ?_
      | refine s_X9_copyNow_26 ?_
      simp (disch := omega) only [B_X9_copyNow_0, wi_iconst, wi_istore_n, B_X9_copyNow_2, wi_iload_n, wi_bipush, wi_icmp_ge, wi_aload_n, wi_getfield, fldv_8_21, fds_8_21, cnt_8, fldv_8_20, fds_8_20, wi_iaload, wi_iastore, wi_iinc, wi_goto, cnt_40, aTy_40, aLn_40, arr_40, cnt_41, aTy_41, aLn_41, arr_41, B_X9_copyNow_26, wi_return_, no0, no1, nz1, nz2, nz3, nz4, nz5, nz7, nz8, Classical.not_not, bz0, bz1, wi_nil, ld_0, ld_s, isIv_I, isLv_L, isRv_R, true_and, and_true, lset_0, lset_1, lset_s, avw_I, avw_L, avw_R, clr_cons, clr_nil, kst_0, kst_1, kstL_0, kstL_1, addk_I, pA_0, pA_s, pD_0, pD_s, wid_nil, wid_cons, rcv_c, putv_I, putv_L, List.length_cons, List.length_nil, List.set_cons_zero, List.set_cons_succ, not_false_eq_true, Nat.reduceMod, Nat.reduceDiv, Nat.reduceEqDiff, Nat.reduceLT, Nat.reduceLeDiff, Nat.reduceAdd, Nat.reduceSub, reduceIte, Nat.lt_irrefl, Nat.zero_ne_one, Nat.one_ne_zero, Nat.zero_add, List.nil_append, List.cons_append, Option.toList_some, Option.toList_none, forall_const, false_implies, true_implies, false_or, or_false, true_or, or_true, i_le, i_lt, i_eq, i_eq0, i_lt0, i_0le, i_0lt, i_le0, i_in1, i_cl, nI_add, pk_mul, pk_sub, i_div, i_rem, i_sh1, i_bit, i_or, i_and, i_andn, nt_le, nf_le, nt_lt, nf_lt, nt_eq, nf_eq, not_true_eq_false, and_self, and_false, false_and, eq_self, Bool.toNat_true, Bool.toNat_false, i_bool, i_bool1, Bool.false_eq_true, Bool.true_eq_false, reduceCtorEq, i_neg1, i_neg2, i_neg3, i_neg4, i_neg5, i_neg6, i_neg7, i_neg8, i_neg9, i_nega, i_negb, i_negc, i_max2, i_min2])
    exact q S (fun t ht => h t (by omega)) hf
  | succ m ih =>
    intro p S hp h hf
    refine s_X9_copyNow_2 ?_
    simp (disch := omega) only [B_X9_copyNow_2, wi_iload_n, wi_bipush, wi_icmp_ge, wi_aload_n, wi_getfield, fldv_8_21, fds_8_21, cnt_8, fldv_8_20, fds_8_20, wi_iaload, wi_iastore, wi_iinc, wi_goto, cnt_40, aTy_40, aLn_40, arr_40, cnt_41, aTy_41, aLn_41, arr_41, no0, no1, nz1, nz2, nz3, nz4, nz5, nz7, nz8, Classical.not_not, bz0, bz1, wi_nil, ld_0, ld_s, isIv_I, isLv_L, isRv_R, true_and, and_true, lset_0, lset_1, lset_s, avw_I, avw_L, avw_R, clr_cons, clr_nil, kst_0, kst_1, kstL_0, kstL_1, addk_I, pA_0, pA_s, pD_0, pD_s, wid_nil, wid_cons, rcv_c, putv_I, putv_L, List.length_cons, List.length_nil, List.set_cons_zero, List.set_cons_succ, not_false_eq_true, Nat.reduceMod, Nat.reduceDiv, Nat.reduceEqDiff, Nat.reduceLT, Nat.reduceLeDiff, Nat.reduceAdd, Nat.reduceSub, reduceIte, Nat.lt_irrefl, Nat.zero_ne_one, Nat.one_ne_zero, Nat.zero_add, List.nil_append, List.cons_append, Option.toList_some, Option.toList_none, forall_const, false_implies, true_implies, false_or, or_false, true_or, or_true, i_le, i_lt, i_eq, i_eq0, i_lt0, i_0le, i_0lt, i_le0, i_in1, i_cl, nI_add, pk_mul, pk_sub, i_div, i_rem, i_sh1, i_bit, i_or, i_and, i_andn, nt_le, nf_le, nt_lt, nf_lt, nt_eq, nf_eq, not_true_eq_false, and_self, and_false, false_and, eq_self, Bool.toNat_true, Bool.toNat_false, i_bool, i_bool1, Bool.false_eq_true, Bool.true_eq_false, reduceCtorEq, i_neg1, i_neg2, i_neg3, i_neg4, i_neg5, i_neg6, i_neg7, i_neg8, i_neg9, i_nega, i_negb, i_negc, i_max2, i_min2]
    refine ih (p + 1) _ (by omega) (fun t ht => ?_) (hf.trans fa_sA)
    rw [gA_same]
    by_cases e : t = p
    · subst e
      rw [pk_us, hf.2.2 40 0 (by decide)]
    · rw [pk_un e]
      exact h t (by omega)
theorem nwa_cong {g h : Nat → Int32} {o o2 : Nat} {Y : Nat → Nat → Nat} (hn : Y 6 0 ≤ 5) (e : ∀ p, p < 19 → h (o2 + p) = g (o + p)) (q : NwA g o Y) : NwA h o2 Y := by
  obtain ⟨⟨a0, a1, a2, a3⟩, a4⟩ := q
  have e0 := e 0 (by decide)
  rw [Nat.add_zero, Nat.add_zero] at e0
  refine ⟨⟨e0.trans a0, (e 1 (by decide)).trans a1, (e 2 (by decide)).trans a2, (e 3 (by decide)).trans a3⟩, fun i hi => ?_⟩
  rw [e _ (by omega), e _ (by omega), e _ (by omega)]
  exact a4 i hi
theorem c_copyNow (hm : YrM S 40 Y) (hn : Y 6 0 ≤ 5) (q : ∀ S2, YrM S2 41 Y → FA 41 S S2 → P none S2) : wpM (d + 1) mX9_copyNow [aR 8 0] S P := by
  refine x_entry (ls2 := [aR 8 0, aU]) (Nat.le_of_ble_eq_true rfl) pl_9 rfl (Nat.le_of_ble_eq_true rfl) ?_
  try simp (disch := omega) only [no0, no1, nz1, nz2, nz3, nz4, nz5, nz7, nz8, Classical.not_not, bz0, bz1, wi_nil, ld_0, ld_s, isIv_I, isLv_L, isRv_R, true_and, and_true, lset_0, lset_1, lset_s, avw_I, avw_L, avw_R, clr_cons, clr_nil, kst_0, kst_1, kstL_0, kstL_1, addk_I, pA_0, pA_s, pD_0, pD_s, wid_nil, wid_cons, rcv_c, putv_I, putv_L, List.length_cons, List.length_nil, List.set_cons_zero, List.set_cons_succ, not_false_eq_true, Nat.reduceMod, Nat.reduceDiv, Nat.reduceEqDiff, Nat.reduceLT, Nat.reduceLeDiff, Nat.reduceAdd, Nat.reduceSub, reduceIte, Nat.lt_irrefl, Nat.zero_ne_one, Nat.one_ne_zero, Nat.zero_add, List.nil_append, List.cons_append, Option.toList_some, Option.toList_none, forall_const, false_implies, true_implies, false_or, or_false, true_or, or_true, i_le, i_lt, i_eq, i_eq0, i_lt0, i_0le, i_0lt, i_le0, i_in1, i_cl, nI_add, pk_mul, pk_sub, i_div, i_rem, i_sh1, i_bit, i_or, i_and, i_andn, nt_le, nf_le, nt_lt, nf_lt, nt_eq, nf_eq, not_true_eq_false, and_self, and_false, false_and, eq_self, Bool.toNat_true, Bool.toNat_false, i_bool, i_bool1, Bool.false_eq_true, Bool.true_eq_false, reduceCtorEq, i_neg1, i_neg2, i_neg3, i_neg4, i_neg5, i_neg6, i_neg7, i_neg8, i_neg9, i_nega, i_negb, i_negc, i_max2, i_min2, wi_nil]
  repeat (
    first
    | refine s_X9_copyNow_0 ?_
    | refine s_X9_copyNow_26 ?_
    simp (disch := omega) only [B_X9_copyNow_0, wi_iconst, wi_istore_n, B_X9_copyNow_2, wi_iload_n, wi_bipush, wi_icmp_ge, wi_aload_n, wi_getfield, fldv_8_21, fds_8_21, cnt_8, fldv_8_20, fds_8_20, wi_iaload, wi_iastore, wi_iinc, wi_goto, cnt_40, aTy_40, aLn_40, arr_40, cnt_41, aTy_41, aLn_41, arr_41, B_X9_copyNow_26, wi_return_, no0, no1, nz1, nz2, nz3, nz4, nz5, nz7, nz8, Classical.not_not, bz0, bz1, wi_nil, ld_0, ld_s, isIv_I, isLv_L, isRv_R, true_and, and_true, lset_0, lset_1, lset_s, avw_I, avw_L, avw_R, clr_cons, clr_nil, kst_0, kst_1, kstL_0, kstL_1, addk_I, pA_0, pA_s, pD_0, pD_s, wid_nil, wid_cons, rcv_c, putv_I, putv_L, List.length_cons, List.length_nil, List.set_cons_zero, List.set_cons_succ, not_false_eq_true, Nat.reduceMod, Nat.reduceDiv, Nat.reduceEqDiff, Nat.reduceLT, Nat.reduceLeDiff, Nat.reduceAdd, Nat.reduceSub, reduceIte, Nat.lt_irrefl, Nat.zero_ne_one, Nat.one_ne_zero, Nat.zero_add, List.nil_append, List.cons_append, Option.toList_some, Option.toList_none, forall_const, false_implies, true_implies, false_or, or_false, true_or, or_true, i_le, i_lt, i_eq, i_eq0, i_lt0, i_0le, i_0lt, i_le0, i_in1, i_cl, nI_add, pk_mul, pk_sub, i_div, i_rem, i_sh1, i_bit, i_or, i_and, i_andn, nt_le, nf_le, nt_lt, nf_lt, nt_eq, nf_eq, not_true_eq_false, and_self, and_false, false_and, eq_self, Bool.toNat_true, Bool.toNat_false, i_bool, i_bool1, Bool.false_eq_true, Bool.true_eq_false, reduceCtorEq, i_neg1, i_neg2, i_neg3, i_neg4, i_neg5, i_neg6, i_neg7, i_neg8, i_neg9, i_nega, i_negb, i_negc, i_max2, i_min2])
  refine l_copyNow (S0 := S) (fun S2 h hf => q S2 ⟨mb_fa hm.1 (Or.inr rfl) hf, nwa_cong hn (fun p hp => ?_) hm.2⟩ hf) 19 0 S rfl (fun t h => absurd h (Nat.not_lt_zero t)) FA.refl
  rw [Nat.zero_add]
  exact h p hp
theorem c_deedTells {i w : Nat} (hm : YrM S 40 Y) (ho : YOk B Y) (hB : B < 1000) (hin : i < Y 6 0) (hw : w < 8) (q : P (some (aI (nI (if w = 4 then yc Y i else if w = 5 then Y 4 i else if w = 6 then ((Y 6 4).testBit i).toNat else if w = 7 then Y 5 i else Y w i)))) S) : wpM (d + 3) mX9_deedTells [aR 8 0, aI (nI i), aI (nI w)] S P := by
  have hn5 := ho.1.1
  have hg := yg_lt ho
  refine x_entry (ls2 := [aR 8 0, aI (nI i), aI (nI w)]) (Nat.le_of_ble_eq_true rfl) pl_9 rfl (Nat.le_of_ble_eq_true rfl) ?_
  refine s_X9_deedTells_0 ?_
  simp (disch := omega) only [B_X9_deedTells_0, wi_iload_n, wi_tsw, no0, no1, nz1, nz2, nz3, nz4, nz5, nz7, nz8, Classical.not_not, bz0, bz1, wi_nil, ld_0, ld_s, isIv_I, isLv_L, isRv_R, true_and, and_true, lset_0, lset_1, lset_s, avw_I, avw_L, avw_R, clr_cons, clr_nil, kst_0, kst_1, kstL_0, kstL_1, addk_I, pA_0, pA_s, pD_0, pD_s, wid_nil, wid_cons, rcv_c, putv_I, putv_L, List.length_cons, List.length_nil, List.set_cons_zero, List.set_cons_succ, not_false_eq_true, Nat.reduceMod, Nat.reduceDiv, Nat.reduceEqDiff, Nat.reduceLT, Nat.reduceLeDiff, Nat.reduceAdd, Nat.reduceSub, reduceIte, Nat.lt_irrefl, Nat.zero_ne_one, Nat.one_ne_zero, Nat.zero_add, List.nil_append, List.cons_append, Option.toList_some, Option.toList_none, forall_const, false_implies, true_implies, false_or, or_false, true_or, or_true, i_le, i_lt, i_eq, i_eq0, i_lt0, i_0le, i_0lt, i_le0, i_in1, i_cl, nI_add, pk_mul, pk_sub, i_div, i_rem, i_sh1, i_bit, i_or, i_and, i_andn, nt_le, nf_le, nt_lt, nf_lt, nt_eq, nf_eq, not_true_eq_false, and_self, and_false, false_and, eq_self, Bool.toNat_true, Bool.toNat_false, i_bool, i_bool1, Bool.false_eq_true, Bool.true_eq_false, reduceCtorEq, i_neg1, i_neg2, i_neg3, i_neg4, i_neg5, i_neg6, i_neg7, i_neg8, i_neg9, i_nega, i_negb, i_negc, i_max2, i_min2]
  rcases (show w = 0 ∨ w = 1 ∨ w = 2 ∨ w = 3 ∨ w = 4 ∨ w = 5 ∨ w = 6 ∨ w = 7 by omega) with rfl | rfl | rfl | rfl | rfl | rfl | rfl | rfl
  · rw [show swt 1 104 0 6 #[43, 50, 57, 66, 73, 83, 93] (nI 0) = 44 from by decide +kernel]
    try simp (disch := omega) only [no0, no1, nz1, nz2, nz3, nz4, nz5, nz7, nz8, Classical.not_not, bz0, bz1, wi_nil, ld_0, ld_s, isIv_I, isLv_L, isRv_R, true_and, and_true, lset_0, lset_1, lset_s, avw_I, avw_L, avw_R, clr_cons, clr_nil, kst_0, kst_1, kstL_0, kstL_1, addk_I, pA_0, pA_s, pD_0, pD_s, wid_nil, wid_cons, rcv_c, putv_I, putv_L, List.length_cons, List.length_nil, List.set_cons_zero, List.set_cons_succ, not_false_eq_true, Nat.reduceMod, Nat.reduceDiv, Nat.reduceEqDiff, Nat.reduceLT, Nat.reduceLeDiff, Nat.reduceAdd, Nat.reduceSub, reduceIte, Nat.lt_irrefl, Nat.zero_ne_one, Nat.one_ne_zero, Nat.zero_add, List.nil_append, List.cons_append, Option.toList_some, Option.toList_none, forall_const, false_implies, true_implies, false_or, or_false, true_or, or_true, i_le, i_lt, i_eq, i_eq0, i_lt0, i_0le, i_0lt, i_le0, i_in1, i_cl, nI_add, pk_mul, pk_sub, i_div, i_rem, i_sh1, i_bit, i_or, i_and, i_andn, nt_le, nf_le, nt_lt, nf_lt, nt_eq, nf_eq, not_true_eq_false, and_self, and_false, false_and, eq_self, Bool.toNat_true, Bool.toNat_false, i_bool, i_bool1, Bool.false_eq_true, Bool.true_eq_false, reduceCtorEq, i_neg1, i_neg2, i_neg3, i_neg4, i_neg5, i_neg6, i_neg7, i_neg8, i_neg9, i_nega, i_negb, i_negc, i_max2, i_min2, (m_kind hm), wi_nil]
    repeat (
      first
      | refine s_X9_deedTells_0 ?_
      | refine s_X9_deedTells_44 ?_
      | refine s_X9_deedTells_51 ?_
      | refine s_X9_deedTells_58 ?_
      | refine s_X9_deedTells_67 ?_
      | refine s_X9_deedTells_74 ?_
      | refine s_X9_deedTells_83 ?_
      | refine s_X9_deedTells_84 ?_
      | refine s_X9_deedTells_94 ?_
      | refine s_X9_deedTells_105 ?_
      simp (disch := omega) only [B_X9_deedTells_0, wi_iload_n, wi_tsw, B_X9_deedTells_44, wi_aload_n, wi_getfield, fldv_8_11, fds_8_11, cnt_8, wi_iaload, wi_ireturn, cnt_36, aTy_36, aLn_36, arr_36, cnt_37, aTy_37, aLn_37, arr_37, cnt_38, aTy_38, aLn_38, arr_38, cnt_40, aTy_40, aLn_40, arr_40, B_X9_deedTells_51, fldv_8_12, fds_8_12, B_X9_deedTells_58, fldv_8_20, fds_8_20, wi_iconst, wi_iadd, B_X9_deedTells_67, fldv_8_13, fds_8_13, B_X9_deedTells_74, wi_invokevirtual, B_X9_deedTells_83, B_X9_deedTells_84, wi_bipush, B_X9_deedTells_94, wi_ishr, wi_iand, B_X9_deedTells_105, no0, no1, nz1, nz2, nz3, nz4, nz5, nz7, nz8, Classical.not_not, bz0, bz1, wi_nil, ld_0, ld_s, isIv_I, isLv_L, isRv_R, true_and, and_true, lset_0, lset_1, lset_s, avw_I, avw_L, avw_R, clr_cons, clr_nil, kst_0, kst_1, kstL_0, kstL_1, addk_I, pA_0, pA_s, pD_0, pD_s, wid_nil, wid_cons, rcv_c, putv_I, putv_L, List.length_cons, List.length_nil, List.set_cons_zero, List.set_cons_succ, not_false_eq_true, Nat.reduceMod, Nat.reduceDiv, Nat.reduceEqDiff, Nat.reduceLT, Nat.reduceLeDiff, Nat.reduceAdd, Nat.reduceSub, reduceIte, Nat.lt_irrefl, Nat.zero_ne_one, Nat.one_ne_zero, Nat.zero_add, List.nil_append, List.cons_append, Option.toList_some, Option.toList_none, forall_const, false_implies, true_implies, false_or, or_false, true_or, or_true, i_le, i_lt, i_eq, i_eq0, i_lt0, i_0le, i_0lt, i_le0, i_in1, i_cl, nI_add, pk_mul, pk_sub, i_div, i_rem, i_sh1, i_bit, i_or, i_and, i_andn, nt_le, nf_le, nt_lt, nf_lt, nt_eq, nf_eq, not_true_eq_false, and_self, and_false, false_and, eq_self, Bool.toNat_true, Bool.toNat_false, i_bool, i_bool1, Bool.false_eq_true, Bool.true_eq_false, reduceCtorEq, i_neg1, i_neg2, i_neg3, i_neg4, i_neg5, i_neg6, i_neg7, i_neg8, i_neg9, i_nega, i_negb, i_negc, i_max2, i_min2, (m_kind hm)])
    exact q
  · rw [show swt 1 104 0 6 #[43, 50, 57, 66, 73, 83, 93] (nI 1) = 51 from by decide +kernel]
    try simp (disch := omega) only [no0, no1, nz1, nz2, nz3, nz4, nz5, nz7, nz8, Classical.not_not, bz0, bz1, wi_nil, ld_0, ld_s, isIv_I, isLv_L, isRv_R, true_and, and_true, lset_0, lset_1, lset_s, avw_I, avw_L, avw_R, clr_cons, clr_nil, kst_0, kst_1, kstL_0, kstL_1, addk_I, pA_0, pA_s, pD_0, pD_s, wid_nil, wid_cons, rcv_c, putv_I, putv_L, List.length_cons, List.length_nil, List.set_cons_zero, List.set_cons_succ, not_false_eq_true, Nat.reduceMod, Nat.reduceDiv, Nat.reduceEqDiff, Nat.reduceLT, Nat.reduceLeDiff, Nat.reduceAdd, Nat.reduceSub, reduceIte, Nat.lt_irrefl, Nat.zero_ne_one, Nat.one_ne_zero, Nat.zero_add, List.nil_append, List.cons_append, Option.toList_some, Option.toList_none, forall_const, false_implies, true_implies, false_or, or_false, true_or, or_true, i_le, i_lt, i_eq, i_eq0, i_lt0, i_0le, i_0lt, i_le0, i_in1, i_cl, nI_add, pk_mul, pk_sub, i_div, i_rem, i_sh1, i_bit, i_or, i_and, i_andn, nt_le, nf_le, nt_lt, nf_lt, nt_eq, nf_eq, not_true_eq_false, and_self, and_false, false_and, eq_self, Bool.toNat_true, Bool.toNat_false, i_bool, i_bool1, Bool.false_eq_true, Bool.true_eq_false, reduceCtorEq, i_neg1, i_neg2, i_neg3, i_neg4, i_neg5, i_neg6, i_neg7, i_neg8, i_neg9, i_nega, i_negb, i_negc, i_max2, i_min2, (m_eff hm), wi_nil]
    repeat (
      first
      | refine s_X9_deedTells_0 ?_
      | refine s_X9_deedTells_44 ?_
      | refine s_X9_deedTells_51 ?_
      | refine s_X9_deedTells_58 ?_
      | refine s_X9_deedTells_67 ?_
      | refine s_X9_deedTells_74 ?_
      | refine s_X9_deedTells_83 ?_
      | refine s_X9_deedTells_84 ?_
      | refine s_X9_deedTells_94 ?_
      | refine s_X9_deedTells_105 ?_
      simp (disch := omega) only [B_X9_deedTells_0, wi_iload_n, wi_tsw, B_X9_deedTells_44, wi_aload_n, wi_getfield, fldv_8_11, fds_8_11, cnt_8, wi_iaload, wi_ireturn, cnt_36, aTy_36, aLn_36, arr_36, cnt_37, aTy_37, aLn_37, arr_37, cnt_38, aTy_38, aLn_38, arr_38, cnt_40, aTy_40, aLn_40, arr_40, B_X9_deedTells_51, fldv_8_12, fds_8_12, B_X9_deedTells_58, fldv_8_20, fds_8_20, wi_iconst, wi_iadd, B_X9_deedTells_67, fldv_8_13, fds_8_13, B_X9_deedTells_74, wi_invokevirtual, B_X9_deedTells_83, B_X9_deedTells_84, wi_bipush, B_X9_deedTells_94, wi_ishr, wi_iand, B_X9_deedTells_105, no0, no1, nz1, nz2, nz3, nz4, nz5, nz7, nz8, Classical.not_not, bz0, bz1, wi_nil, ld_0, ld_s, isIv_I, isLv_L, isRv_R, true_and, and_true, lset_0, lset_1, lset_s, avw_I, avw_L, avw_R, clr_cons, clr_nil, kst_0, kst_1, kstL_0, kstL_1, addk_I, pA_0, pA_s, pD_0, pD_s, wid_nil, wid_cons, rcv_c, putv_I, putv_L, List.length_cons, List.length_nil, List.set_cons_zero, List.set_cons_succ, not_false_eq_true, Nat.reduceMod, Nat.reduceDiv, Nat.reduceEqDiff, Nat.reduceLT, Nat.reduceLeDiff, Nat.reduceAdd, Nat.reduceSub, reduceIte, Nat.lt_irrefl, Nat.zero_ne_one, Nat.one_ne_zero, Nat.zero_add, List.nil_append, List.cons_append, Option.toList_some, Option.toList_none, forall_const, false_implies, true_implies, false_or, or_false, true_or, or_true, i_le, i_lt, i_eq, i_eq0, i_lt0, i_0le, i_0lt, i_le0, i_in1, i_cl, nI_add, pk_mul, pk_sub, i_div, i_rem, i_sh1, i_bit, i_or, i_and, i_andn, nt_le, nf_le, nt_lt, nf_lt, nt_eq, nf_eq, not_true_eq_false, and_self, and_false, false_and, eq_self, Bool.toNat_true, Bool.toNat_false, i_bool, i_bool1, Bool.false_eq_true, Bool.true_eq_false, reduceCtorEq, i_neg1, i_neg2, i_neg3, i_neg4, i_neg5, i_neg6, i_neg7, i_neg8, i_neg9, i_nega, i_negb, i_negc, i_max2, i_min2, (m_eff hm)])
    exact q
  · rw [show swt 1 104 0 6 #[43, 50, 57, 66, 73, 83, 93] (nI 2) = 58 from by decide +kernel]
    try simp (disch := omega) only [no0, no1, nz1, nz2, nz3, nz4, nz5, nz7, nz8, Classical.not_not, bz0, bz1, wi_nil, ld_0, ld_s, isIv_I, isLv_L, isRv_R, true_and, and_true, lset_0, lset_1, lset_s, avw_I, avw_L, avw_R, clr_cons, clr_nil, kst_0, kst_1, kstL_0, kstL_1, addk_I, pA_0, pA_s, pD_0, pD_s, wid_nil, wid_cons, rcv_c, putv_I, putv_L, List.length_cons, List.length_nil, List.set_cons_zero, List.set_cons_succ, not_false_eq_true, Nat.reduceMod, Nat.reduceDiv, Nat.reduceEqDiff, Nat.reduceLT, Nat.reduceLeDiff, Nat.reduceAdd, Nat.reduceSub, reduceIte, Nat.lt_irrefl, Nat.zero_ne_one, Nat.one_ne_zero, Nat.zero_add, List.nil_append, List.cons_append, Option.toList_some, Option.toList_none, forall_const, false_implies, true_implies, false_or, or_false, true_or, or_true, i_le, i_lt, i_eq, i_eq0, i_lt0, i_0le, i_0lt, i_le0, i_in1, i_cl, nI_add, pk_mul, pk_sub, i_div, i_rem, i_sh1, i_bit, i_or, i_and, i_andn, nt_le, nf_le, nt_lt, nf_lt, nt_eq, nf_eq, not_true_eq_false, and_self, and_false, false_and, eq_self, Bool.toNat_true, Bool.toNat_false, i_bool, i_bool1, Bool.false_eq_true, Bool.true_eq_false, reduceCtorEq, i_neg1, i_neg2, i_neg3, i_neg4, i_neg5, i_neg6, i_neg7, i_neg8, i_neg9, i_nega, i_negb, i_negc, i_max2, i_min2, (m_hab hm), wi_nil]
    repeat (
      first
      | refine s_X9_deedTells_0 ?_
      | refine s_X9_deedTells_44 ?_
      | refine s_X9_deedTells_51 ?_
      | refine s_X9_deedTells_58 ?_
      | refine s_X9_deedTells_67 ?_
      | refine s_X9_deedTells_74 ?_
      | refine s_X9_deedTells_83 ?_
      | refine s_X9_deedTells_84 ?_
      | refine s_X9_deedTells_94 ?_
      | refine s_X9_deedTells_105 ?_
      simp (disch := omega) only [B_X9_deedTells_0, wi_iload_n, wi_tsw, B_X9_deedTells_44, wi_aload_n, wi_getfield, fldv_8_11, fds_8_11, cnt_8, wi_iaload, wi_ireturn, cnt_36, aTy_36, aLn_36, arr_36, cnt_37, aTy_37, aLn_37, arr_37, cnt_38, aTy_38, aLn_38, arr_38, cnt_40, aTy_40, aLn_40, arr_40, B_X9_deedTells_51, fldv_8_12, fds_8_12, B_X9_deedTells_58, fldv_8_20, fds_8_20, wi_iconst, wi_iadd, B_X9_deedTells_67, fldv_8_13, fds_8_13, B_X9_deedTells_74, wi_invokevirtual, B_X9_deedTells_83, B_X9_deedTells_84, wi_bipush, B_X9_deedTells_94, wi_ishr, wi_iand, B_X9_deedTells_105, no0, no1, nz1, nz2, nz3, nz4, nz5, nz7, nz8, Classical.not_not, bz0, bz1, wi_nil, ld_0, ld_s, isIv_I, isLv_L, isRv_R, true_and, and_true, lset_0, lset_1, lset_s, avw_I, avw_L, avw_R, clr_cons, clr_nil, kst_0, kst_1, kstL_0, kstL_1, addk_I, pA_0, pA_s, pD_0, pD_s, wid_nil, wid_cons, rcv_c, putv_I, putv_L, List.length_cons, List.length_nil, List.set_cons_zero, List.set_cons_succ, not_false_eq_true, Nat.reduceMod, Nat.reduceDiv, Nat.reduceEqDiff, Nat.reduceLT, Nat.reduceLeDiff, Nat.reduceAdd, Nat.reduceSub, reduceIte, Nat.lt_irrefl, Nat.zero_ne_one, Nat.one_ne_zero, Nat.zero_add, List.nil_append, List.cons_append, Option.toList_some, Option.toList_none, forall_const, false_implies, true_implies, false_or, or_false, true_or, or_true, i_le, i_lt, i_eq, i_eq0, i_lt0, i_0le, i_0lt, i_le0, i_in1, i_cl, nI_add, pk_mul, pk_sub, i_div, i_rem, i_sh1, i_bit, i_or, i_and, i_andn, nt_le, nf_le, nt_lt, nf_lt, nt_eq, nf_eq, not_true_eq_false, and_self, and_false, false_and, eq_self, Bool.toNat_true, Bool.toNat_false, i_bool, i_bool1, Bool.false_eq_true, Bool.true_eq_false, reduceCtorEq, i_neg1, i_neg2, i_neg3, i_neg4, i_neg5, i_neg6, i_neg7, i_neg8, i_neg9, i_nega, i_negb, i_negc, i_max2, i_min2, (m_hab hm)])
    exact q
  · rw [show swt 1 104 0 6 #[43, 50, 57, 66, 73, 83, 93] (nI 3) = 67 from by decide +kernel]
    try simp (disch := omega) only [no0, no1, nz1, nz2, nz3, nz4, nz5, nz7, nz8, Classical.not_not, bz0, bz1, wi_nil, ld_0, ld_s, isIv_I, isLv_L, isRv_R, true_and, and_true, lset_0, lset_1, lset_s, avw_I, avw_L, avw_R, clr_cons, clr_nil, kst_0, kst_1, kstL_0, kstL_1, addk_I, pA_0, pA_s, pD_0, pD_s, wid_nil, wid_cons, rcv_c, putv_I, putv_L, List.length_cons, List.length_nil, List.set_cons_zero, List.set_cons_succ, not_false_eq_true, Nat.reduceMod, Nat.reduceDiv, Nat.reduceEqDiff, Nat.reduceLT, Nat.reduceLeDiff, Nat.reduceAdd, Nat.reduceSub, reduceIte, Nat.lt_irrefl, Nat.zero_ne_one, Nat.one_ne_zero, Nat.zero_add, List.nil_append, List.cons_append, Option.toList_some, Option.toList_none, forall_const, false_implies, true_implies, false_or, or_false, true_or, or_true, i_le, i_lt, i_eq, i_eq0, i_lt0, i_0le, i_0lt, i_le0, i_in1, i_cl, nI_add, pk_mul, pk_sub, i_div, i_rem, i_sh1, i_bit, i_or, i_and, i_andn, nt_le, nf_le, nt_lt, nf_lt, nt_eq, nf_eq, not_true_eq_false, and_self, and_false, false_and, eq_self, Bool.toNat_true, Bool.toNat_false, i_bool, i_bool1, Bool.false_eq_true, Bool.true_eq_false, reduceCtorEq, i_neg1, i_neg2, i_neg3, i_neg4, i_neg5, i_neg6, i_neg7, i_neg8, i_neg9, i_nega, i_negb, i_negc, i_max2, i_min2, (m_pull hm), wi_nil]
    repeat (
      first
      | refine s_X9_deedTells_0 ?_
      | refine s_X9_deedTells_44 ?_
      | refine s_X9_deedTells_51 ?_
      | refine s_X9_deedTells_58 ?_
      | refine s_X9_deedTells_67 ?_
      | refine s_X9_deedTells_74 ?_
      | refine s_X9_deedTells_83 ?_
      | refine s_X9_deedTells_84 ?_
      | refine s_X9_deedTells_94 ?_
      | refine s_X9_deedTells_105 ?_
      simp (disch := omega) only [B_X9_deedTells_0, wi_iload_n, wi_tsw, B_X9_deedTells_44, wi_aload_n, wi_getfield, fldv_8_11, fds_8_11, cnt_8, wi_iaload, wi_ireturn, cnt_36, aTy_36, aLn_36, arr_36, cnt_37, aTy_37, aLn_37, arr_37, cnt_38, aTy_38, aLn_38, arr_38, cnt_40, aTy_40, aLn_40, arr_40, B_X9_deedTells_51, fldv_8_12, fds_8_12, B_X9_deedTells_58, fldv_8_20, fds_8_20, wi_iconst, wi_iadd, B_X9_deedTells_67, fldv_8_13, fds_8_13, B_X9_deedTells_74, wi_invokevirtual, B_X9_deedTells_83, B_X9_deedTells_84, wi_bipush, B_X9_deedTells_94, wi_ishr, wi_iand, B_X9_deedTells_105, no0, no1, nz1, nz2, nz3, nz4, nz5, nz7, nz8, Classical.not_not, bz0, bz1, wi_nil, ld_0, ld_s, isIv_I, isLv_L, isRv_R, true_and, and_true, lset_0, lset_1, lset_s, avw_I, avw_L, avw_R, clr_cons, clr_nil, kst_0, kst_1, kstL_0, kstL_1, addk_I, pA_0, pA_s, pD_0, pD_s, wid_nil, wid_cons, rcv_c, putv_I, putv_L, List.length_cons, List.length_nil, List.set_cons_zero, List.set_cons_succ, not_false_eq_true, Nat.reduceMod, Nat.reduceDiv, Nat.reduceEqDiff, Nat.reduceLT, Nat.reduceLeDiff, Nat.reduceAdd, Nat.reduceSub, reduceIte, Nat.lt_irrefl, Nat.zero_ne_one, Nat.one_ne_zero, Nat.zero_add, List.nil_append, List.cons_append, Option.toList_some, Option.toList_none, forall_const, false_implies, true_implies, false_or, or_false, true_or, or_true, i_le, i_lt, i_eq, i_eq0, i_lt0, i_0le, i_0lt, i_le0, i_in1, i_cl, nI_add, pk_mul, pk_sub, i_div, i_rem, i_sh1, i_bit, i_or, i_and, i_andn, nt_le, nf_le, nt_lt, nf_lt, nt_eq, nf_eq, not_true_eq_false, and_self, and_false, false_and, eq_self, Bool.toNat_true, Bool.toNat_false, i_bool, i_bool1, Bool.false_eq_true, Bool.true_eq_false, reduceCtorEq, i_neg1, i_neg2, i_neg3, i_neg4, i_neg5, i_neg6, i_neg7, i_neg8, i_neg9, i_nega, i_negb, i_negc, i_max2, i_min2, (m_pull hm)])
    exact q
  · rw [show swt 1 104 0 6 #[43, 50, 57, 66, 73, 83, 93] (nI 4) = 74 from by decide +kernel]
    try simp (disch := omega) only [no0, no1, nz1, nz2, nz3, nz4, nz5, nz7, nz8, Classical.not_not, bz0, bz1, wi_nil, ld_0, ld_s, isIv_I, isLv_L, isRv_R, true_and, and_true, lset_0, lset_1, lset_s, avw_I, avw_L, avw_R, clr_cons, clr_nil, kst_0, kst_1, kstL_0, kstL_1, addk_I, pA_0, pA_s, pD_0, pD_s, wid_nil, wid_cons, rcv_c, putv_I, putv_L, List.length_cons, List.length_nil, List.set_cons_zero, List.set_cons_succ, not_false_eq_true, Nat.reduceMod, Nat.reduceDiv, Nat.reduceEqDiff, Nat.reduceLT, Nat.reduceLeDiff, Nat.reduceAdd, Nat.reduceSub, reduceIte, Nat.lt_irrefl, Nat.zero_ne_one, Nat.one_ne_zero, Nat.zero_add, List.nil_append, List.cons_append, Option.toList_some, Option.toList_none, forall_const, false_implies, true_implies, false_or, or_false, true_or, or_true, i_le, i_lt, i_eq, i_eq0, i_lt0, i_0le, i_0lt, i_le0, i_in1, i_cl, nI_add, pk_mul, pk_sub, i_div, i_rem, i_sh1, i_bit, i_or, i_and, i_andn, nt_le, nf_le, nt_lt, nf_lt, nt_eq, nf_eq, not_true_eq_false, and_self, and_false, false_and, eq_self, Bool.toNat_true, Bool.toNat_false, i_bool, i_bool1, Bool.false_eq_true, Bool.true_eq_false, reduceCtorEq, i_neg1, i_neg2, i_neg3, i_neg4, i_neg5, i_neg6, i_neg7, i_neg8, i_neg9, i_nega, i_negb, i_negc, i_max2, i_min2, wi_nil]
    repeat (
      first
      | refine s_X9_deedTells_0 ?_
      | refine s_X9_deedTells_44 ?_
      | refine s_X9_deedTells_51 ?_
      | refine s_X9_deedTells_58 ?_
      | refine s_X9_deedTells_67 ?_
      | refine s_X9_deedTells_74 ?_
      | refine s_X9_deedTells_83 ?_
      | refine s_X9_deedTells_84 ?_
      | refine s_X9_deedTells_94 ?_
      | refine s_X9_deedTells_105 ?_
      simp (disch := omega) only [B_X9_deedTells_0, wi_iload_n, wi_tsw, B_X9_deedTells_44, wi_aload_n, wi_getfield, fldv_8_11, fds_8_11, cnt_8, wi_iaload, wi_ireturn, cnt_36, aTy_36, aLn_36, arr_36, cnt_37, aTy_37, aLn_37, arr_37, cnt_38, aTy_38, aLn_38, arr_38, cnt_40, aTy_40, aLn_40, arr_40, B_X9_deedTells_51, fldv_8_12, fds_8_12, B_X9_deedTells_58, fldv_8_20, fds_8_20, wi_iconst, wi_iadd, B_X9_deedTells_67, fldv_8_13, fds_8_13, B_X9_deedTells_74, wi_invokevirtual, B_X9_deedTells_83, B_X9_deedTells_84, wi_bipush, B_X9_deedTells_94, wi_ishr, wi_iand, B_X9_deedTells_105, no0, no1, nz1, nz2, nz3, nz4, nz5, nz7, nz8, Classical.not_not, bz0, bz1, wi_nil, ld_0, ld_s, isIv_I, isLv_L, isRv_R, true_and, and_true, lset_0, lset_1, lset_s, avw_I, avw_L, avw_R, clr_cons, clr_nil, kst_0, kst_1, kstL_0, kstL_1, addk_I, pA_0, pA_s, pD_0, pD_s, wid_nil, wid_cons, rcv_c, putv_I, putv_L, List.length_cons, List.length_nil, List.set_cons_zero, List.set_cons_succ, not_false_eq_true, Nat.reduceMod, Nat.reduceDiv, Nat.reduceEqDiff, Nat.reduceLT, Nat.reduceLeDiff, Nat.reduceAdd, Nat.reduceSub, reduceIte, Nat.lt_irrefl, Nat.zero_ne_one, Nat.one_ne_zero, Nat.zero_add, List.nil_append, List.cons_append, Option.toList_some, Option.toList_none, forall_const, false_implies, true_implies, false_or, or_false, true_or, or_true, i_le, i_lt, i_eq, i_eq0, i_lt0, i_0le, i_0lt, i_le0, i_in1, i_cl, nI_add, pk_mul, pk_sub, i_div, i_rem, i_sh1, i_bit, i_or, i_and, i_andn, nt_le, nf_le, nt_lt, nf_lt, nt_eq, nf_eq, not_true_eq_false, and_self, and_false, false_and, eq_self, Bool.toNat_true, Bool.toNat_false, i_bool, i_bool1, Bool.false_eq_true, Bool.true_eq_false, reduceCtorEq, i_neg1, i_neg2, i_neg3, i_neg4, i_neg5, i_neg6, i_neg7, i_neg8, i_neg9, i_nega, i_negb, i_negc, i_max2, i_min2])
    refine c_costOn (Or.inl rfl) hm ho hB hin ?_
    try simp (disch := omega) only [no0, no1, nz1, nz2, nz3, nz4, nz5, nz7, nz8, Classical.not_not, bz0, bz1, wi_nil, ld_0, ld_s, isIv_I, isLv_L, isRv_R, true_and, and_true, lset_0, lset_1, lset_s, avw_I, avw_L, avw_R, clr_cons, clr_nil, kst_0, kst_1, kstL_0, kstL_1, addk_I, pA_0, pA_s, pD_0, pD_s, wid_nil, wid_cons, rcv_c, putv_I, putv_L, List.length_cons, List.length_nil, List.set_cons_zero, List.set_cons_succ, not_false_eq_true, Nat.reduceMod, Nat.reduceDiv, Nat.reduceEqDiff, Nat.reduceLT, Nat.reduceLeDiff, Nat.reduceAdd, Nat.reduceSub, reduceIte, Nat.lt_irrefl, Nat.zero_ne_one, Nat.one_ne_zero, Nat.zero_add, List.nil_append, List.cons_append, Option.toList_some, Option.toList_none, forall_const, false_implies, true_implies, false_or, or_false, true_or, or_true, i_le, i_lt, i_eq, i_eq0, i_lt0, i_0le, i_0lt, i_le0, i_in1, i_cl, nI_add, pk_mul, pk_sub, i_div, i_rem, i_sh1, i_bit, i_or, i_and, i_andn, nt_le, nf_le, nt_lt, nf_lt, nt_eq, nf_eq, not_true_eq_false, and_self, and_false, false_and, eq_self, Bool.toNat_true, Bool.toNat_false, i_bool, i_bool1, Bool.false_eq_true, Bool.true_eq_false, reduceCtorEq, i_neg1, i_neg2, i_neg3, i_neg4, i_neg5, i_neg6, i_neg7, i_neg8, i_neg9, i_nega, i_negb, i_negc, i_max2, i_min2, wi_nil]
    repeat (
      first
      | refine s_X9_deedTells_0 ?_
      | refine s_X9_deedTells_44 ?_
      | refine s_X9_deedTells_51 ?_
      | refine s_X9_deedTells_58 ?_
      | refine s_X9_deedTells_67 ?_
      | refine s_X9_deedTells_74 ?_
      | refine s_X9_deedTells_83 ?_
      | refine s_X9_deedTells_84 ?_
      | refine s_X9_deedTells_94 ?_
      | refine s_X9_deedTells_105 ?_
      simp (disch := omega) only [B_X9_deedTells_0, wi_iload_n, wi_tsw, B_X9_deedTells_44, wi_aload_n, wi_getfield, fldv_8_11, fds_8_11, cnt_8, wi_iaload, wi_ireturn, cnt_36, aTy_36, aLn_36, arr_36, cnt_37, aTy_37, aLn_37, arr_37, cnt_38, aTy_38, aLn_38, arr_38, cnt_40, aTy_40, aLn_40, arr_40, B_X9_deedTells_51, fldv_8_12, fds_8_12, B_X9_deedTells_58, fldv_8_20, fds_8_20, wi_iconst, wi_iadd, B_X9_deedTells_67, fldv_8_13, fds_8_13, B_X9_deedTells_74, wi_invokevirtual, B_X9_deedTells_83, B_X9_deedTells_84, wi_bipush, B_X9_deedTells_94, wi_ishr, wi_iand, B_X9_deedTells_105, no0, no1, nz1, nz2, nz3, nz4, nz5, nz7, nz8, Classical.not_not, bz0, bz1, wi_nil, ld_0, ld_s, isIv_I, isLv_L, isRv_R, true_and, and_true, lset_0, lset_1, lset_s, avw_I, avw_L, avw_R, clr_cons, clr_nil, kst_0, kst_1, kstL_0, kstL_1, addk_I, pA_0, pA_s, pD_0, pD_s, wid_nil, wid_cons, rcv_c, putv_I, putv_L, List.length_cons, List.length_nil, List.set_cons_zero, List.set_cons_succ, not_false_eq_true, Nat.reduceMod, Nat.reduceDiv, Nat.reduceEqDiff, Nat.reduceLT, Nat.reduceLeDiff, Nat.reduceAdd, Nat.reduceSub, reduceIte, Nat.lt_irrefl, Nat.zero_ne_one, Nat.one_ne_zero, Nat.zero_add, List.nil_append, List.cons_append, Option.toList_some, Option.toList_none, forall_const, false_implies, true_implies, false_or, or_false, true_or, or_true, i_le, i_lt, i_eq, i_eq0, i_lt0, i_0le, i_0lt, i_le0, i_in1, i_cl, nI_add, pk_mul, pk_sub, i_div, i_rem, i_sh1, i_bit, i_or, i_and, i_andn, nt_le, nf_le, nt_lt, nf_lt, nt_eq, nf_eq, not_true_eq_false, and_self, and_false, false_and, eq_self, Bool.toNat_true, Bool.toNat_false, i_bool, i_bool1, Bool.false_eq_true, Bool.true_eq_false, reduceCtorEq, i_neg1, i_neg2, i_neg3, i_neg4, i_neg5, i_neg6, i_neg7, i_neg8, i_neg9, i_nega, i_negb, i_negc, i_max2, i_min2])
    exact q
  · rw [show swt 1 104 0 6 #[43, 50, 57, 66, 73, 83, 93] (nI 5) = 84 from by decide +kernel]
    try simp (disch := omega) only [no0, no1, nz1, nz2, nz3, nz4, nz5, nz7, nz8, Classical.not_not, bz0, bz1, wi_nil, ld_0, ld_s, isIv_I, isLv_L, isRv_R, true_and, and_true, lset_0, lset_1, lset_s, avw_I, avw_L, avw_R, clr_cons, clr_nil, kst_0, kst_1, kstL_0, kstL_1, addk_I, pA_0, pA_s, pD_0, pD_s, wid_nil, wid_cons, rcv_c, putv_I, putv_L, List.length_cons, List.length_nil, List.set_cons_zero, List.set_cons_succ, not_false_eq_true, Nat.reduceMod, Nat.reduceDiv, Nat.reduceEqDiff, Nat.reduceLT, Nat.reduceLeDiff, Nat.reduceAdd, Nat.reduceSub, reduceIte, Nat.lt_irrefl, Nat.zero_ne_one, Nat.one_ne_zero, Nat.zero_add, List.nil_append, List.cons_append, Option.toList_some, Option.toList_none, forall_const, false_implies, true_implies, false_or, or_false, true_or, or_true, i_le, i_lt, i_eq, i_eq0, i_lt0, i_0le, i_0lt, i_le0, i_in1, i_cl, nI_add, pk_mul, pk_sub, i_div, i_rem, i_sh1, i_bit, i_or, i_and, i_andn, nt_le, nf_le, nt_lt, nf_lt, nt_eq, nf_eq, not_true_eq_false, and_self, and_false, false_and, eq_self, Bool.toNat_true, Bool.toNat_false, i_bool, i_bool1, Bool.false_eq_true, Bool.true_eq_false, reduceCtorEq, i_neg1, i_neg2, i_neg3, i_neg4, i_neg5, i_neg6, i_neg7, i_neg8, i_neg9, i_nega, i_negb, i_negc, i_max2, i_min2, (m_ch hm), wi_nil]
    repeat (
      first
      | refine s_X9_deedTells_0 ?_
      | refine s_X9_deedTells_44 ?_
      | refine s_X9_deedTells_51 ?_
      | refine s_X9_deedTells_58 ?_
      | refine s_X9_deedTells_67 ?_
      | refine s_X9_deedTells_74 ?_
      | refine s_X9_deedTells_83 ?_
      | refine s_X9_deedTells_84 ?_
      | refine s_X9_deedTells_94 ?_
      | refine s_X9_deedTells_105 ?_
      simp (disch := omega) only [B_X9_deedTells_0, wi_iload_n, wi_tsw, B_X9_deedTells_44, wi_aload_n, wi_getfield, fldv_8_11, fds_8_11, cnt_8, wi_iaload, wi_ireturn, cnt_36, aTy_36, aLn_36, arr_36, cnt_37, aTy_37, aLn_37, arr_37, cnt_38, aTy_38, aLn_38, arr_38, cnt_40, aTy_40, aLn_40, arr_40, B_X9_deedTells_51, fldv_8_12, fds_8_12, B_X9_deedTells_58, fldv_8_20, fds_8_20, wi_iconst, wi_iadd, B_X9_deedTells_67, fldv_8_13, fds_8_13, B_X9_deedTells_74, wi_invokevirtual, B_X9_deedTells_83, B_X9_deedTells_84, wi_bipush, B_X9_deedTells_94, wi_ishr, wi_iand, B_X9_deedTells_105, no0, no1, nz1, nz2, nz3, nz4, nz5, nz7, nz8, Classical.not_not, bz0, bz1, wi_nil, ld_0, ld_s, isIv_I, isLv_L, isRv_R, true_and, and_true, lset_0, lset_1, lset_s, avw_I, avw_L, avw_R, clr_cons, clr_nil, kst_0, kst_1, kstL_0, kstL_1, addk_I, pA_0, pA_s, pD_0, pD_s, wid_nil, wid_cons, rcv_c, putv_I, putv_L, List.length_cons, List.length_nil, List.set_cons_zero, List.set_cons_succ, not_false_eq_true, Nat.reduceMod, Nat.reduceDiv, Nat.reduceEqDiff, Nat.reduceLT, Nat.reduceLeDiff, Nat.reduceAdd, Nat.reduceSub, reduceIte, Nat.lt_irrefl, Nat.zero_ne_one, Nat.one_ne_zero, Nat.zero_add, List.nil_append, List.cons_append, Option.toList_some, Option.toList_none, forall_const, false_implies, true_implies, false_or, or_false, true_or, or_true, i_le, i_lt, i_eq, i_eq0, i_lt0, i_0le, i_0lt, i_le0, i_in1, i_cl, nI_add, pk_mul, pk_sub, i_div, i_rem, i_sh1, i_bit, i_or, i_and, i_andn, nt_le, nf_le, nt_lt, nf_lt, nt_eq, nf_eq, not_true_eq_false, and_self, and_false, false_and, eq_self, Bool.toNat_true, Bool.toNat_false, i_bool, i_bool1, Bool.false_eq_true, Bool.true_eq_false, reduceCtorEq, i_neg1, i_neg2, i_neg3, i_neg4, i_neg5, i_neg6, i_neg7, i_neg8, i_neg9, i_nega, i_negb, i_negc, i_max2, i_min2, (m_ch hm)])
    exact q
  · rw [show swt 1 104 0 6 #[43, 50, 57, 66, 73, 83, 93] (nI 6) = 94 from by decide +kernel]
    try simp (disch := omega) only [no0, no1, nz1, nz2, nz3, nz4, nz5, nz7, nz8, Classical.not_not, bz0, bz1, wi_nil, ld_0, ld_s, isIv_I, isLv_L, isRv_R, true_and, and_true, lset_0, lset_1, lset_s, avw_I, avw_L, avw_R, clr_cons, clr_nil, kst_0, kst_1, kstL_0, kstL_1, addk_I, pA_0, pA_s, pD_0, pD_s, wid_nil, wid_cons, rcv_c, putv_I, putv_L, List.length_cons, List.length_nil, List.set_cons_zero, List.set_cons_succ, not_false_eq_true, Nat.reduceMod, Nat.reduceDiv, Nat.reduceEqDiff, Nat.reduceLT, Nat.reduceLeDiff, Nat.reduceAdd, Nat.reduceSub, reduceIte, Nat.lt_irrefl, Nat.zero_ne_one, Nat.one_ne_zero, Nat.zero_add, List.nil_append, List.cons_append, Option.toList_some, Option.toList_none, forall_const, false_implies, true_implies, false_or, or_false, true_or, or_true, i_le, i_lt, i_eq, i_eq0, i_lt0, i_0le, i_0lt, i_le0, i_in1, i_cl, nI_add, pk_mul, pk_sub, i_div, i_rem, i_sh1, i_bit, i_or, i_and, i_andn, nt_le, nf_le, nt_lt, nf_lt, nt_eq, nf_eq, not_true_eq_false, and_self, and_false, false_and, eq_self, Bool.toNat_true, Bool.toNat_false, i_bool, i_bool1, Bool.false_eq_true, Bool.true_eq_false, reduceCtorEq, i_neg1, i_neg2, i_neg3, i_neg4, i_neg5, i_neg6, i_neg7, i_neg8, i_neg9, i_nega, i_negb, i_negc, i_max2, i_min2, (m_gone hm), wi_nil]
    repeat (
      first
      | refine s_X9_deedTells_0 ?_
      | refine s_X9_deedTells_44 ?_
      | refine s_X9_deedTells_51 ?_
      | refine s_X9_deedTells_58 ?_
      | refine s_X9_deedTells_67 ?_
      | refine s_X9_deedTells_74 ?_
      | refine s_X9_deedTells_83 ?_
      | refine s_X9_deedTells_84 ?_
      | refine s_X9_deedTells_94 ?_
      | refine s_X9_deedTells_105 ?_
      simp (disch := omega) only [B_X9_deedTells_0, wi_iload_n, wi_tsw, B_X9_deedTells_44, wi_aload_n, wi_getfield, fldv_8_11, fds_8_11, cnt_8, wi_iaload, wi_ireturn, cnt_36, aTy_36, aLn_36, arr_36, cnt_37, aTy_37, aLn_37, arr_37, cnt_38, aTy_38, aLn_38, arr_38, cnt_40, aTy_40, aLn_40, arr_40, B_X9_deedTells_51, fldv_8_12, fds_8_12, B_X9_deedTells_58, fldv_8_20, fds_8_20, wi_iconst, wi_iadd, B_X9_deedTells_67, fldv_8_13, fds_8_13, B_X9_deedTells_74, wi_invokevirtual, B_X9_deedTells_83, B_X9_deedTells_84, wi_bipush, B_X9_deedTells_94, wi_ishr, wi_iand, B_X9_deedTells_105, no0, no1, nz1, nz2, nz3, nz4, nz5, nz7, nz8, Classical.not_not, bz0, bz1, wi_nil, ld_0, ld_s, isIv_I, isLv_L, isRv_R, true_and, and_true, lset_0, lset_1, lset_s, avw_I, avw_L, avw_R, clr_cons, clr_nil, kst_0, kst_1, kstL_0, kstL_1, addk_I, pA_0, pA_s, pD_0, pD_s, wid_nil, wid_cons, rcv_c, putv_I, putv_L, List.length_cons, List.length_nil, List.set_cons_zero, List.set_cons_succ, not_false_eq_true, Nat.reduceMod, Nat.reduceDiv, Nat.reduceEqDiff, Nat.reduceLT, Nat.reduceLeDiff, Nat.reduceAdd, Nat.reduceSub, reduceIte, Nat.lt_irrefl, Nat.zero_ne_one, Nat.one_ne_zero, Nat.zero_add, List.nil_append, List.cons_append, Option.toList_some, Option.toList_none, forall_const, false_implies, true_implies, false_or, or_false, true_or, or_true, i_le, i_lt, i_eq, i_eq0, i_lt0, i_0le, i_0lt, i_le0, i_in1, i_cl, nI_add, pk_mul, pk_sub, i_div, i_rem, i_sh1, i_bit, i_or, i_and, i_andn, nt_le, nf_le, nt_lt, nf_lt, nt_eq, nf_eq, not_true_eq_false, and_self, and_false, false_and, eq_self, Bool.toNat_true, Bool.toNat_false, i_bool, i_bool1, Bool.false_eq_true, Bool.true_eq_false, reduceCtorEq, i_neg1, i_neg2, i_neg3, i_neg4, i_neg5, i_neg6, i_neg7, i_neg8, i_neg9, i_nega, i_negb, i_negc, i_max2, i_min2, (m_gone hm)])
    exact q
  · rw [show swt 1 104 0 6 #[43, 50, 57, 66, 73, 83, 93] (nI 7) = 105 from by decide +kernel]
    try simp (disch := omega) only [no0, no1, nz1, nz2, nz3, nz4, nz5, nz7, nz8, Classical.not_not, bz0, bz1, wi_nil, ld_0, ld_s, isIv_I, isLv_L, isRv_R, true_and, and_true, lset_0, lset_1, lset_s, avw_I, avw_L, avw_R, clr_cons, clr_nil, kst_0, kst_1, kstL_0, kstL_1, addk_I, pA_0, pA_s, pD_0, pD_s, wid_nil, wid_cons, rcv_c, putv_I, putv_L, List.length_cons, List.length_nil, List.set_cons_zero, List.set_cons_succ, not_false_eq_true, Nat.reduceMod, Nat.reduceDiv, Nat.reduceEqDiff, Nat.reduceLT, Nat.reduceLeDiff, Nat.reduceAdd, Nat.reduceSub, reduceIte, Nat.lt_irrefl, Nat.zero_ne_one, Nat.one_ne_zero, Nat.zero_add, List.nil_append, List.cons_append, Option.toList_some, Option.toList_none, forall_const, false_implies, true_implies, false_or, or_false, true_or, or_true, i_le, i_lt, i_eq, i_eq0, i_lt0, i_0le, i_0lt, i_le0, i_in1, i_cl, nI_add, pk_mul, pk_sub, i_div, i_rem, i_sh1, i_bit, i_or, i_and, i_andn, nt_le, nf_le, nt_lt, nf_lt, nt_eq, nf_eq, not_true_eq_false, and_self, and_false, false_and, eq_self, Bool.toNat_true, Bool.toNat_false, i_bool, i_bool1, Bool.false_eq_true, Bool.true_eq_false, reduceCtorEq, i_neg1, i_neg2, i_neg3, i_neg4, i_neg5, i_neg6, i_neg7, i_neg8, i_neg9, i_nega, i_negb, i_negc, i_max2, i_min2, (m_times hm), wi_nil]
    repeat (
      first
      | refine s_X9_deedTells_0 ?_
      | refine s_X9_deedTells_44 ?_
      | refine s_X9_deedTells_51 ?_
      | refine s_X9_deedTells_58 ?_
      | refine s_X9_deedTells_67 ?_
      | refine s_X9_deedTells_74 ?_
      | refine s_X9_deedTells_83 ?_
      | refine s_X9_deedTells_84 ?_
      | refine s_X9_deedTells_94 ?_
      | refine s_X9_deedTells_105 ?_
      simp (disch := omega) only [B_X9_deedTells_0, wi_iload_n, wi_tsw, B_X9_deedTells_44, wi_aload_n, wi_getfield, fldv_8_11, fds_8_11, cnt_8, wi_iaload, wi_ireturn, cnt_36, aTy_36, aLn_36, arr_36, cnt_37, aTy_37, aLn_37, arr_37, cnt_38, aTy_38, aLn_38, arr_38, cnt_40, aTy_40, aLn_40, arr_40, B_X9_deedTells_51, fldv_8_12, fds_8_12, B_X9_deedTells_58, fldv_8_20, fds_8_20, wi_iconst, wi_iadd, B_X9_deedTells_67, fldv_8_13, fds_8_13, B_X9_deedTells_74, wi_invokevirtual, B_X9_deedTells_83, B_X9_deedTells_84, wi_bipush, B_X9_deedTells_94, wi_ishr, wi_iand, B_X9_deedTells_105, no0, no1, nz1, nz2, nz3, nz4, nz5, nz7, nz8, Classical.not_not, bz0, bz1, wi_nil, ld_0, ld_s, isIv_I, isLv_L, isRv_R, true_and, and_true, lset_0, lset_1, lset_s, avw_I, avw_L, avw_R, clr_cons, clr_nil, kst_0, kst_1, kstL_0, kstL_1, addk_I, pA_0, pA_s, pD_0, pD_s, wid_nil, wid_cons, rcv_c, putv_I, putv_L, List.length_cons, List.length_nil, List.set_cons_zero, List.set_cons_succ, not_false_eq_true, Nat.reduceMod, Nat.reduceDiv, Nat.reduceEqDiff, Nat.reduceLT, Nat.reduceLeDiff, Nat.reduceAdd, Nat.reduceSub, reduceIte, Nat.lt_irrefl, Nat.zero_ne_one, Nat.one_ne_zero, Nat.zero_add, List.nil_append, List.cons_append, Option.toList_some, Option.toList_none, forall_const, false_implies, true_implies, false_or, or_false, true_or, or_true, i_le, i_lt, i_eq, i_eq0, i_lt0, i_0le, i_0lt, i_le0, i_in1, i_cl, nI_add, pk_mul, pk_sub, i_div, i_rem, i_sh1, i_bit, i_or, i_and, i_andn, nt_le, nf_le, nt_lt, nf_lt, nt_eq, nf_eq, not_true_eq_false, and_self, and_false, false_and, eq_self, Bool.toNat_true, Bool.toNat_false, i_bool, i_bool1, Bool.false_eq_true, Bool.true_eq_false, reduceCtorEq, i_neg1, i_neg2, i_neg3, i_neg4, i_neg5, i_neg6, i_neg7, i_neg8, i_neg9, i_nega, i_negb, i_negc, i_max2, i_min2, (m_times hm)])
    exact q
theorem c_asKind {i kd : Nat} (hm : YrM S 40 Y) (ho : YOk B Y) (hB : B < 1000) (hin : i < Y 6 0) (hkd : kd < 6) (q : P (some (aI (nI (prc kd (Y 1 i) (Y 2 i) (Y 3 i) (Y 4 i) (Y 6 1))))) S) : wpM (d + 2) mX9_asKind [aR 8 0, aI (nI i), aI (nI kd)] S P := by
  have hn5 := ho.1.1
  have hb := ho.2 i hin
  have hd := ho.1.2.1
  refine x_entry (ls2 := [aR 8 0, aI (nI i), aI (nI kd)]) (Nat.le_of_ble_eq_true rfl) pl_9 rfl (Nat.le_of_ble_eq_true rfl) ?_
  try simp (disch := omega) only [no0, no1, nz1, nz2, nz3, nz4, nz5, nz7, nz8, Classical.not_not, bz0, bz1, wi_nil, ld_0, ld_s, isIv_I, isLv_L, isRv_R, true_and, and_true, lset_0, lset_1, lset_s, avw_I, avw_L, avw_R, clr_cons, clr_nil, kst_0, kst_1, kstL_0, kstL_1, addk_I, pA_0, pA_s, pD_0, pD_s, wid_nil, wid_cons, rcv_c, putv_I, putv_L, List.length_cons, List.length_nil, List.set_cons_zero, List.set_cons_succ, not_false_eq_true, Nat.reduceMod, Nat.reduceDiv, Nat.reduceEqDiff, Nat.reduceLT, Nat.reduceLeDiff, Nat.reduceAdd, Nat.reduceSub, reduceIte, Nat.lt_irrefl, Nat.zero_ne_one, Nat.one_ne_zero, Nat.zero_add, List.nil_append, List.cons_append, Option.toList_some, Option.toList_none, forall_const, false_implies, true_implies, false_or, or_false, true_or, or_true, i_le, i_lt, i_eq, i_eq0, i_lt0, i_0le, i_0lt, i_le0, i_in1, i_cl, nI_add, pk_mul, pk_sub, i_div, i_rem, i_sh1, i_bit, i_or, i_and, i_andn, nt_le, nf_le, nt_lt, nf_lt, nt_eq, nf_eq, not_true_eq_false, and_self, and_false, false_and, eq_self, Bool.toNat_true, Bool.toNat_false, i_bool, i_bool1, Bool.false_eq_true, Bool.true_eq_false, reduceCtorEq, i_neg1, i_neg2, i_neg3, i_neg4, i_neg5, i_neg6, i_neg7, i_neg8, i_neg9, i_nega, i_negb, i_negc, i_max2, i_min2, (m_eff hm), (m_pull hm), (m_hab hm), (m_ch hm), (m_day hm), wi_nil]
  repeat (
    first
    | refine s_X9_asKind_0 ?_
    | refine s_X9_asKind_39 ?_
    simp (disch := omega) only [B_X9_asKind_0, wi_iload_n, wi_aload_n, wi_getfield, fldv_8_12, fds_8_12, cnt_8, wi_iaload, fldv_8_20, fds_8_20, wi_iconst, wi_iadd, fldv_8_13, fds_8_13, wi_bipush, wi_invokestatic, cnt_37, aTy_37, aLn_37, arr_37, cnt_38, aTy_38, aLn_38, arr_38, cnt_40, aTy_40, aLn_40, arr_40, B_X9_asKind_39, wi_ireturn, no0, no1, nz1, nz2, nz3, nz4, nz5, nz7, nz8, Classical.not_not, bz0, bz1, wi_nil, ld_0, ld_s, isIv_I, isLv_L, isRv_R, true_and, and_true, lset_0, lset_1, lset_s, avw_I, avw_L, avw_R, clr_cons, clr_nil, kst_0, kst_1, kstL_0, kstL_1, addk_I, pA_0, pA_s, pD_0, pD_s, wid_nil, wid_cons, rcv_c, putv_I, putv_L, List.length_cons, List.length_nil, List.set_cons_zero, List.set_cons_succ, not_false_eq_true, Nat.reduceMod, Nat.reduceDiv, Nat.reduceEqDiff, Nat.reduceLT, Nat.reduceLeDiff, Nat.reduceAdd, Nat.reduceSub, reduceIte, Nat.lt_irrefl, Nat.zero_ne_one, Nat.one_ne_zero, Nat.zero_add, List.nil_append, List.cons_append, Option.toList_some, Option.toList_none, forall_const, false_implies, true_implies, false_or, or_false, true_or, or_true, i_le, i_lt, i_eq, i_eq0, i_lt0, i_0le, i_0lt, i_le0, i_in1, i_cl, nI_add, pk_mul, pk_sub, i_div, i_rem, i_sh1, i_bit, i_or, i_and, i_andn, nt_le, nf_le, nt_lt, nf_lt, nt_eq, nf_eq, not_true_eq_false, and_self, and_false, false_and, eq_self, Bool.toNat_true, Bool.toNat_false, i_bool, i_bool1, Bool.false_eq_true, Bool.true_eq_false, reduceCtorEq, i_neg1, i_neg2, i_neg3, i_neg4, i_neg5, i_neg6, i_neg7, i_neg8, i_neg9, i_nega, i_negb, i_negc, i_max2, i_min2, (m_eff hm), (m_pull hm), (m_hab hm), (m_ch hm), (m_day hm)])
  refine c_costBy hkd (by omega) (by omega) (by omega) (by omega) (by omega) ?_
  try simp (disch := omega) only [no0, no1, nz1, nz2, nz3, nz4, nz5, nz7, nz8, Classical.not_not, bz0, bz1, wi_nil, ld_0, ld_s, isIv_I, isLv_L, isRv_R, true_and, and_true, lset_0, lset_1, lset_s, avw_I, avw_L, avw_R, clr_cons, clr_nil, kst_0, kst_1, kstL_0, kstL_1, addk_I, pA_0, pA_s, pD_0, pD_s, wid_nil, wid_cons, rcv_c, putv_I, putv_L, List.length_cons, List.length_nil, List.set_cons_zero, List.set_cons_succ, not_false_eq_true, Nat.reduceMod, Nat.reduceDiv, Nat.reduceEqDiff, Nat.reduceLT, Nat.reduceLeDiff, Nat.reduceAdd, Nat.reduceSub, reduceIte, Nat.lt_irrefl, Nat.zero_ne_one, Nat.one_ne_zero, Nat.zero_add, List.nil_append, List.cons_append, Option.toList_some, Option.toList_none, forall_const, false_implies, true_implies, false_or, or_false, true_or, or_true, i_le, i_lt, i_eq, i_eq0, i_lt0, i_0le, i_0lt, i_le0, i_in1, i_cl, nI_add, pk_mul, pk_sub, i_div, i_rem, i_sh1, i_bit, i_or, i_and, i_andn, nt_le, nf_le, nt_lt, nf_lt, nt_eq, nf_eq, not_true_eq_false, and_self, and_false, false_and, eq_self, Bool.toNat_true, Bool.toNat_false, i_bool, i_bool1, Bool.false_eq_true, Bool.true_eq_false, reduceCtorEq, i_neg1, i_neg2, i_neg3, i_neg4, i_neg5, i_neg6, i_neg7, i_neg8, i_neg9, i_nega, i_negb, i_negc, i_max2, i_min2, wi_nil]
  repeat (
    first
    | refine s_X9_asKind_0 ?_
    | refine s_X9_asKind_39 ?_
    simp (disch := omega) only [B_X9_asKind_0, wi_iload_n, wi_aload_n, wi_getfield, fldv_8_12, fds_8_12, cnt_8, wi_iaload, fldv_8_20, fds_8_20, wi_iconst, wi_iadd, fldv_8_13, fds_8_13, wi_bipush, wi_invokestatic, cnt_37, aTy_37, aLn_37, arr_37, cnt_38, aTy_38, aLn_38, arr_38, cnt_40, aTy_40, aLn_40, arr_40, B_X9_asKind_39, wi_ireturn, no0, no1, nz1, nz2, nz3, nz4, nz5, nz7, nz8, Classical.not_not, bz0, bz1, wi_nil, ld_0, ld_s, isIv_I, isLv_L, isRv_R, true_and, and_true, lset_0, lset_1, lset_s, avw_I, avw_L, avw_R, clr_cons, clr_nil, kst_0, kst_1, kstL_0, kstL_1, addk_I, pA_0, pA_s, pD_0, pD_s, wid_nil, wid_cons, rcv_c, putv_I, putv_L, List.length_cons, List.length_nil, List.set_cons_zero, List.set_cons_succ, not_false_eq_true, Nat.reduceMod, Nat.reduceDiv, Nat.reduceEqDiff, Nat.reduceLT, Nat.reduceLeDiff, Nat.reduceAdd, Nat.reduceSub, reduceIte, Nat.lt_irrefl, Nat.zero_ne_one, Nat.one_ne_zero, Nat.zero_add, List.nil_append, List.cons_append, Option.toList_some, Option.toList_none, forall_const, false_implies, true_implies, false_or, or_false, true_or, or_true, i_le, i_lt, i_eq, i_eq0, i_lt0, i_0le, i_0lt, i_le0, i_in1, i_cl, nI_add, pk_mul, pk_sub, i_div, i_rem, i_sh1, i_bit, i_or, i_and, i_andn, nt_le, nf_le, nt_lt, nf_lt, nt_eq, nf_eq, not_true_eq_false, and_self, and_false, false_and, eq_self, Bool.toNat_true, Bool.toNat_false, i_bool, i_bool1, Bool.false_eq_true, Bool.true_eq_false, reduceCtorEq, i_neg1, i_neg2, i_neg3, i_neg4, i_neg5, i_neg6, i_neg7, i_neg8, i_neg9, i_nega, i_negb, i_negc, i_max2, i_min2])
  exact q
end
