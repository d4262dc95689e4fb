-- PART 39: mark
section
variable {d B : Nat} {S : MS} {Y Y0 : Nat → Nat → Nat} {P : Option AV → MS → Prop}
theorem isk_t {a : Nat} (ha : a < 6) : (isk a 1 = true ↔ (a = 1 ∨ a = 4)) ∧ (isk a 2 = true ↔ a = 2) ∧ (isk a 3 = true ↔ (a = 3 ∨ a = 5)) ∧ (isk a 4 = true ↔ a = 4) ∧ (isk a 5 = true ↔ a = 5) := fin1 (p := fun a => (isk a 1 = true ↔ (a = 1 ∨ a = 4)) ∧ (isk a 2 = true ↔ a = 2) ∧ (isk a 3 = true ↔ (a = 3 ∨ a = 5)) ∧ (isk a 4 = true ↔ a = 4) ∧ (isk a 5 = true ↔ a = 5)) (n := 6) (by decide +kernel) ha
theorem o_mark {i w : Int32} (h : Rr S) : wpM (d + 10) mX8_mark [aR 7 0, aI i, aI w] S (PX d mX9_mark [aI i, aI w]) := by
  obtain ⟨Y, hy, hok, hm⟩ := r_year h
  have hn5 := hok.1.1
  have hdd := hok.1.2.1
  cases hi : inB i (Y 6 0)
  · refine x_entry (ls2 := [aR 7 0, aI i, aI w, aU]) (Nat.le_of_ble_eq_true rfl) pl_8 rfl (Nat.le_of_ble_eq_true rfl) ?_
    try simp (disch := omega) only [no0, no1, nz1, nz2, nz3, nz4, nz5, nz7, nz8, Classical.not_not, bz0, bz1, wi_nil, ld_0, ld_s, isIv_I, isLv_L, isRv_R, true_and, and_true, lset_0, lset_1, lset_s, avw_I, avw_L, avw_R, clr_cons, clr_nil, kst_0, kst_1, kstL_0, kstL_1, addk_I, pA_0, pA_s, pD_0, pD_s, wid_nil, wid_cons, rcv_c, putv_I, putv_L, List.length_cons, List.length_nil, List.set_cons_zero, List.set_cons_succ, not_false_eq_true, Nat.reduceMod, Nat.reduceDiv, Nat.reduceEqDiff, Nat.reduceLT, Nat.reduceLeDiff, Nat.reduceAdd, Nat.reduceSub, reduceIte, Nat.lt_irrefl, Nat.zero_ne_one, Nat.one_ne_zero, Nat.zero_add, List.nil_append, List.cons_append, Option.toList_some, Option.toList_none, forall_const, false_implies, true_implies, false_or, or_false, true_or, or_true, i_le, i_lt, i_eq, i_eq0, i_lt0, i_0le, i_0lt, i_le0, i_in1, i_cl, nI_add, pk_mul, pk_sub, i_div, i_rem, i_sh1, i_bit, i_or, i_and, i_andn, nt_le, nf_le, nt_lt, nf_lt, nt_eq, nf_eq, not_true_eq_false, and_self, and_false, false_and, eq_self, Bool.toNat_true, Bool.toNat_false, i_bool, i_bool1, Bool.false_eq_true, Bool.true_eq_false, reduceCtorEq, i_neg1, i_neg2, i_neg3, i_neg4, i_neg5, i_neg6, i_neg7, i_neg8, i_neg9, i_nega, i_negb, i_negc, i_max2, i_min2, wi_nil]
    repeat (
      first
      | refine s_X8_mark_0 ?_
      | refine s_X8_mark_5 ?_
      | refine s_X8_mark_18 ?_
      | refine s_X8_mark_20 ?_
      | refine s_X8_mark_33 ?_
      | refine s_X8_mark_41 ?_
      | refine s_X8_mark_42 ?_
      | refine s_X8_mark_50 ?_
      | refine s_X8_mark_84 ?_
      | refine s_X8_mark_98 ?_
      | refine s_X8_mark_115 ?_
      | refine s_X8_mark_117 ?_
      | refine s_X8_mark_134 ?_
      | refine s_X8_mark_140 ?_
      | refine s_X8_mark_156 ?_
      | refine s_X8_mark_159 ?_
      | refine s_X8_mark_175 ?_
      | refine s_X8_mark_176 ?_
      simp (disch := omega) only [B_X8_mark_0, wi_aload_n, wi_iload_n, wi_invokevirtual, cnt_7, B_X8_mark_5, wi_if_eq, wi_if_le, wi_bipush, wi_icmp_lt, B_X8_mark_18, wi_iconst, wi_ireturn, B_X8_mark_20, wi_getfield, fldv_7_3, fds_7_3, fldv_6_0, fds_6_0, cnt_6, wi_iaload, wi_invokestatic, cnt_20, aTy_20, aLn_20, arr_20, cnt_24, aTy_24, aLn_24, arr_24, B_X8_mark_33, wi_if_ne, B_X8_mark_41, B_X8_mark_42, B_X8_mark_50, wi_istore_n, wi_tsw, B_X8_mark_84, fldv_6_8, fds_6_8, wi_irem, wi_isub, B_X8_mark_98, B_X8_mark_115, B_X8_mark_117, B_X8_mark_134, wi_max, B_X8_mark_140, B_X8_mark_156, B_X8_mark_159, fldv_6_4, fds_6_4, wi_goto, B_X8_mark_175, B_X8_mark_176, no0, no1, nz1, nz2, nz3, nz4, nz5, nz7, nz8, Classical.not_not, bz0, bz1, wi_nil, ld_0, ld_s, isIv_I, isLv_L, isRv_R, true_and, and_true, lset_0, lset_1, lset_s, avw_I, avw_L, avw_R, clr_cons, clr_nil, kst_0, kst_1, kstL_0, kstL_1, addk_I, pA_0, pA_s, pD_0, pD_s, wid_nil, wid_cons, rcv_c, putv_I, putv_L, List.length_cons, List.length_nil, List.set_cons_zero, List.set_cons_succ, not_false_eq_true, Nat.reduceMod, Nat.reduceDiv, Nat.reduceEqDiff, Nat.reduceLT, Nat.reduceLeDiff, Nat.reduceAdd, Nat.reduceSub, reduceIte, Nat.lt_irrefl, Nat.zero_ne_one, Nat.one_ne_zero, Nat.zero_add, List.nil_append, List.cons_append, Option.toList_some, Option.toList_none, forall_const, false_implies, true_implies, false_or, or_false, true_or, or_true, i_le, i_lt, i_eq, i_eq0, i_lt0, i_0le, i_0lt, i_le0, i_in1, i_cl, nI_add, pk_mul, pk_sub, i_div, i_rem, i_sh1, i_bit, i_or, i_and, i_andn, nt_le, nf_le, nt_lt, nf_lt, nt_eq, nf_eq, not_true_eq_false, and_self, and_false, false_and, eq_self, Bool.toNat_true, Bool.toNat_false, i_bool, i_bool1, Bool.false_eq_true, Bool.true_eq_false, reduceCtorEq, i_neg1, i_neg2, i_neg3, i_neg4, i_neg5, i_neg6, i_neg7, i_neg8, i_neg9, i_nega, i_negb, i_negc, i_max2, i_min2])
    refine c_isDeed hy hn5 ?_
    try simp (disch := omega) only [no0, no1, nz1, nz2, nz3, nz4, nz5, nz7, nz8, Classical.not_not, bz0, bz1, wi_nil, ld_0, ld_s, isIv_I, isLv_L, isRv_R, true_and, and_true, lset_0, lset_1, lset_s, avw_I, avw_L, avw_R, clr_cons, clr_nil, kst_0, kst_1, kstL_0, kstL_1, addk_I, pA_0, pA_s, pD_0, pD_s, wid_nil, wid_cons, rcv_c, putv_I, putv_L, List.length_cons, List.length_nil, List.set_cons_zero, List.set_cons_succ, not_false_eq_true, Nat.reduceMod, Nat.reduceDiv, Nat.reduceEqDiff, Nat.reduceLT, Nat.reduceLeDiff, Nat.reduceAdd, Nat.reduceSub, reduceIte, Nat.lt_irrefl, Nat.zero_ne_one, Nat.one_ne_zero, Nat.zero_add, List.nil_append, List.cons_append, Option.toList_some, Option.toList_none, forall_const, false_implies, true_implies, false_or, or_false, true_or, or_true, i_le, i_lt, i_eq, i_eq0, i_lt0, i_0le, i_0lt, i_le0, i_in1, i_cl, nI_add, pk_mul, pk_sub, i_div, i_rem, i_sh1, i_bit, i_or, i_and, i_andn, nt_le, nf_le, nt_lt, nf_lt, nt_eq, nf_eq, not_true_eq_false, and_self, and_false, false_and, eq_self, Bool.toNat_true, Bool.toNat_false, i_bool, i_bool1, Bool.false_eq_true, Bool.true_eq_false, reduceCtorEq, i_neg1, i_neg2, i_neg3, i_neg4, i_neg5, i_neg6, i_neg7, i_neg8, i_neg9, i_nega, i_negb, i_negc, i_max2, i_min2, hi, wi_nil]
    repeat (
      first
      | refine s_X8_mark_0 ?_
      | refine s_X8_mark_5 ?_
      | refine s_X8_mark_18 ?_
      | refine s_X8_mark_20 ?_
      | refine s_X8_mark_33 ?_
      | refine s_X8_mark_41 ?_
      | refine s_X8_mark_42 ?_
      | refine s_X8_mark_50 ?_
      | refine s_X8_mark_84 ?_
      | refine s_X8_mark_98 ?_
      | refine s_X8_mark_115 ?_
      | refine s_X8_mark_117 ?_
      | refine s_X8_mark_134 ?_
      | refine s_X8_mark_140 ?_
      | refine s_X8_mark_156 ?_
      | refine s_X8_mark_159 ?_
      | refine s_X8_mark_175 ?_
      | refine s_X8_mark_176 ?_
      simp (disch := omega) only [B_X8_mark_0, wi_aload_n, wi_iload_n, wi_invokevirtual, cnt_7, B_X8_mark_5, wi_if_eq, wi_if_le, wi_bipush, wi_icmp_lt, B_X8_mark_18, wi_iconst, wi_ireturn, B_X8_mark_20, wi_getfield, fldv_7_3, fds_7_3, fldv_6_0, fds_6_0, cnt_6, wi_iaload, wi_invokestatic, cnt_20, aTy_20, aLn_20, arr_20, cnt_24, aTy_24, aLn_24, arr_24, B_X8_mark_33, wi_if_ne, B_X8_mark_41, B_X8_mark_42, B_X8_mark_50, wi_istore_n, wi_tsw, B_X8_mark_84, fldv_6_8, fds_6_8, wi_irem, wi_isub, B_X8_mark_98, B_X8_mark_115, B_X8_mark_117, B_X8_mark_134, wi_max, B_X8_mark_140, B_X8_mark_156, B_X8_mark_159, fldv_6_4, fds_6_4, wi_goto, B_X8_mark_175, B_X8_mark_176, no0, no1, nz1, nz2, nz3, nz4, nz5, nz7, nz8, Classical.not_not, bz0, bz1, wi_nil, ld_0, ld_s, isIv_I, isLv_L, isRv_R, true_and, and_true, lset_0, lset_1, lset_s, avw_I, avw_L, avw_R, clr_cons, clr_nil, kst_0, kst_1, kstL_0, kstL_1, addk_I, pA_0, pA_s, pD_0, pD_s, wid_nil, wid_cons, rcv_c, putv_I, putv_L, List.length_cons, List.length_nil, List.set_cons_zero, List.set_cons_succ, not_false_eq_true, Nat.reduceMod, Nat.reduceDiv, Nat.reduceEqDiff, Nat.reduceLT, Nat.reduceLeDiff, Nat.reduceAdd, Nat.reduceSub, reduceIte, Nat.lt_irrefl, Nat.zero_ne_one, Nat.one_ne_zero, Nat.zero_add, List.nil_append, List.cons_append, Option.toList_some, Option.toList_none, forall_const, false_implies, true_implies, false_or, or_false, true_or, or_true, i_le, i_lt, i_eq, i_eq0, i_lt0, i_0le, i_0lt, i_le0, i_in1, i_cl, nI_add, pk_mul, pk_sub, i_div, i_rem, i_sh1, i_bit, i_or, i_and, i_andn, nt_le, nf_le, nt_lt, nf_lt, nt_eq, nf_eq, not_true_eq_false, and_self, and_false, false_and, eq_self, Bool.toNat_true, Bool.toNat_false, i_bool, i_bool1, Bool.false_eq_true, Bool.true_eq_false, reduceCtorEq, i_neg1, i_neg2, i_neg3, i_neg4, i_neg5, i_neg6, i_neg7, i_neg8, i_neg9, i_nega, i_negb, i_negc, i_max2, i_min2, hi])
    refine px ?_
    refine x_entry (ls2 := [aR 8 0, aI i, aI w, aU, aU]) (Nat.le_of_ble_eq_true rfl) pl_9 rfl (Nat.le_of_ble_eq_true rfl) ?_
    try simp (disch := omega) only [no0, no1, nz1, nz2, nz3, nz4, nz5, nz7, nz8, Classical.not_not, bz0, bz1, wi_nil, ld_0, ld_s, isIv_I, isLv_L, isRv_R, true_and, and_true, lset_0, lset_1, lset_s, avw_I, avw_L, avw_R, clr_cons, clr_nil, kst_0, kst_1, kstL_0, kstL_1, addk_I, pA_0, pA_s, pD_0, pD_s, wid_nil, wid_cons, rcv_c, putv_I, putv_L, List.length_cons, List.length_nil, List.set_cons_zero, List.set_cons_succ, not_false_eq_true, Nat.reduceMod, Nat.reduceDiv, Nat.reduceEqDiff, Nat.reduceLT, Nat.reduceLeDiff, Nat.reduceAdd, Nat.reduceSub, reduceIte, Nat.lt_irrefl, Nat.zero_ne_one, Nat.one_ne_zero, Nat.zero_add, List.nil_append, List.cons_append, Option.toList_some, Option.toList_none, forall_const, false_implies, true_implies, false_or, or_false, true_or, or_true, i_le, i_lt, i_eq, i_eq0, i_lt0, i_0le, i_0lt, i_le0, i_in1, i_cl, nI_add, pk_mul, pk_sub, i_div, i_rem, i_sh1, i_bit, i_or, i_and, i_andn, nt_le, nf_le, nt_lt, nf_lt, nt_eq, nf_eq, not_true_eq_false, and_self, and_false, false_and, eq_self, Bool.toNat_true, Bool.toNat_false, i_bool, i_bool1, Bool.false_eq_true, Bool.true_eq_false, reduceCtorEq, i_neg1, i_neg2, i_neg3, i_neg4, i_neg5, i_neg6, i_neg7, i_neg8, i_neg9, i_nega, i_negb, i_negc, i_max2, i_min2, wi_nil]
    repeat (
      first
      | refine s_X9_mark_0 ?_
      | refine s_X9_mark_5 ?_
      | refine s_X9_mark_14 ?_
      | refine s_X9_mark_17 ?_
      | refine s_X9_mark_19 ?_
      | refine s_X9_mark_41 ?_
      | refine s_X9_mark_51 ?_
      | refine s_X9_mark_56 ?_
      | refine s_X9_mark_57 ?_
      | refine s_X9_mark_66 ?_
      | refine s_X9_mark_100 ?_
      | refine s_X9_mark_113 ?_
      | refine s_X9_mark_121 ?_
      | refine s_X9_mark_123 ?_
      | refine s_X9_mark_129 ?_
      | refine s_X9_mark_140 ?_
      | refine s_X9_mark_146 ?_
      | refine s_X9_mark_147 ?_
      | refine s_X9_mark_148 ?_
      | refine s_X9_mark_154 ?_
      | refine s_X9_mark_158 ?_
      | refine s_X9_mark_174 ?_
      | refine s_X9_mark_175 ?_
      simp (disch := omega) only [B_X9_mark_0, wi_aload_n, wi_iload_n, wi_invokevirtual, cnt_8, B_X9_mark_5, wi_if_eq, wi_iconst, wi_invokestatic, B_X9_mark_14, wi_if_ne, B_X9_mark_17, wi_ireturn, B_X9_mark_19, wi_getfield, fldv_8_11, fds_8_11, wi_iaload, wi_istore_n, wi_icmp_eq, wi_icmp_ne, cnt_36, aTy_36, aLn_36, arr_36, cnt_40, aTy_40, aLn_40, arr_40, B_X9_mark_41, B_X9_mark_51, B_X9_mark_56, B_X9_mark_57, fldv_8_20, fds_8_20, B_X9_mark_66, wi_istore, wi_tsw, B_X9_mark_100, wi_irem, wi_isub, B_X9_mark_113, wi_iload, B_X9_mark_121, B_X9_mark_123, B_X9_mark_129, wi_icmp_le, B_X9_mark_140, wi_goto, B_X9_mark_146, B_X9_mark_147, B_X9_mark_148, B_X9_mark_154, B_X9_mark_158, wi_bipush, wi_iadd, B_X9_mark_174, B_X9_mark_175, no0, no1, nz1, nz2, nz3, nz4, nz5, nz7, nz8, Classical.not_not, bz0, bz1, wi_nil, ld_0, ld_s, isIv_I, isLv_L, isRv_R, true_and, and_true, lset_0, lset_1, lset_s, avw_I, avw_L, avw_R, clr_cons, clr_nil, kst_0, kst_1, kstL_0, kstL_1, addk_I, pA_0, pA_s, pD_0, pD_s, wid_nil, wid_cons, rcv_c, putv_I, putv_L, List.length_cons, List.length_nil, List.set_cons_zero, List.set_cons_succ, not_false_eq_true, Nat.reduceMod, Nat.reduceDiv, Nat.reduceEqDiff, Nat.reduceLT, Nat.reduceLeDiff, Nat.reduceAdd, Nat.reduceSub, reduceIte, Nat.lt_irrefl, Nat.zero_ne_one, Nat.one_ne_zero, Nat.zero_add, List.nil_append, List.cons_append, Option.toList_some, Option.toList_none, forall_const, false_implies, true_implies, false_or, or_false, true_or, or_true, i_le, i_lt, i_eq, i_eq0, i_lt0, i_0le, i_0lt, i_le0, i_in1, i_cl, nI_add, pk_mul, pk_sub, i_div, i_rem, i_sh1, i_bit, i_or, i_and, i_andn, nt_le, nf_le, nt_lt, nf_lt, nt_eq, nf_eq, not_true_eq_false, and_self, and_false, false_and, eq_self, Bool.toNat_true, Bool.toNat_false, i_bool, i_bool1, Bool.false_eq_true, Bool.true_eq_false, reduceCtorEq, i_neg1, i_neg2, i_neg3, i_neg4, i_neg5, i_neg6, i_neg7, i_neg8, i_neg9, i_nega, i_negb, i_negc, i_max2, i_min2])
    refine c_mDeed hm hn5 ?_
    try simp (disch := omega) only [no0, no1, nz1, nz2, nz3, nz4, nz5, nz7, nz8, Classical.not_not, bz0, bz1, wi_nil, ld_0, ld_s, isIv_I, isLv_L, isRv_R, true_and, and_true, lset_0, lset_1, lset_s, avw_I, avw_L, avw_R, clr_cons, clr_nil, kst_0, kst_1, kstL_0, kstL_1, addk_I, pA_0, pA_s, pD_0, pD_s, wid_nil, wid_cons, rcv_c, putv_I, putv_L, List.length_cons, List.length_nil, List.set_cons_zero, List.set_cons_succ, not_false_eq_true, Nat.reduceMod, Nat.reduceDiv, Nat.reduceEqDiff, Nat.reduceLT, Nat.reduceLeDiff, Nat.reduceAdd, Nat.reduceSub, reduceIte, Nat.lt_irrefl, Nat.zero_ne_one, Nat.one_ne_zero, Nat.zero_add, List.nil_append, List.cons_append, Option.toList_some, Option.toList_none, forall_const, false_implies, true_implies, false_or, or_false, true_or, or_true, i_le, i_lt, i_eq, i_eq0, i_lt0, i_0le, i_0lt, i_le0, i_in1, i_cl, nI_add, pk_mul, pk_sub, i_div, i_rem, i_sh1, i_bit, i_or, i_and, i_andn, nt_le, nf_le, nt_lt, nf_lt, nt_eq, nf_eq, not_true_eq_false, and_self, and_false, false_and, eq_self, Bool.toNat_true, Bool.toNat_false, i_bool, i_bool1, Bool.false_eq_true, Bool.true_eq_false, reduceCtorEq, i_neg1, i_neg2, i_neg3, i_neg4, i_neg5, i_neg6, i_neg7, i_neg8, i_neg9, i_nega, i_negb, i_negc, i_max2, i_min2, hi, wi_nil]
    repeat (
      first
      | refine s_X9_mark_0 ?_
      | refine s_X9_mark_5 ?_
      | refine s_X9_mark_14 ?_
      | refine s_X9_mark_17 ?_
      | refine s_X9_mark_19 ?_
      | refine s_X9_mark_41 ?_
      | refine s_X9_mark_51 ?_
      | refine s_X9_mark_56 ?_
      | refine s_X9_mark_57 ?_
      | refine s_X9_mark_66 ?_
      | refine s_X9_mark_100 ?_
      | refine s_X9_mark_113 ?_
      | refine s_X9_mark_121 ?_
      | refine s_X9_mark_123 ?_
      | refine s_X9_mark_129 ?_
      | refine s_X9_mark_140 ?_
      | refine s_X9_mark_146 ?_
      | refine s_X9_mark_147 ?_
      | refine s_X9_mark_148 ?_
      | refine s_X9_mark_154 ?_
      | refine s_X9_mark_158 ?_
      | refine s_X9_mark_174 ?_
      | refine s_X9_mark_175 ?_
      simp (disch := omega) only [B_X9_mark_0, wi_aload_n, wi_iload_n, wi_invokevirtual, cnt_8, B_X9_mark_5, wi_if_eq, wi_iconst, wi_invokestatic, B_X9_mark_14, wi_if_ne, B_X9_mark_17, wi_ireturn, B_X9_mark_19, wi_getfield, fldv_8_11, fds_8_11, wi_iaload, wi_istore_n, wi_icmp_eq, wi_icmp_ne, cnt_36, aTy_36, aLn_36, arr_36, cnt_40, aTy_40, aLn_40, arr_40, B_X9_mark_41, B_X9_mark_51, B_X9_mark_56, B_X9_mark_57, fldv_8_20, fds_8_20, B_X9_mark_66, wi_istore, wi_tsw, B_X9_mark_100, wi_irem, wi_isub, B_X9_mark_113, wi_iload, B_X9_mark_121, B_X9_mark_123, B_X9_mark_129, wi_icmp_le, B_X9_mark_140, wi_goto, B_X9_mark_146, B_X9_mark_147, B_X9_mark_148, B_X9_mark_154, B_X9_mark_158, wi_bipush, wi_iadd, B_X9_mark_174, B_X9_mark_175, no0, no1, nz1, nz2, nz3, nz4, nz5, nz7, nz8, Classical.not_not, bz0, bz1, wi_nil, ld_0, ld_s, isIv_I, isLv_L, isRv_R, true_and, and_true, lset_0, lset_1, lset_s, avw_I, avw_L, avw_R, clr_cons, clr_nil, kst_0, kst_1, kstL_0, kstL_1, addk_I, pA_0, pA_s, pD_0, pD_s, wid_nil, wid_cons, rcv_c, putv_I, putv_L, List.length_cons, List.length_nil, List.set_cons_zero, List.set_cons_succ, not_false_eq_true, Nat.reduceMod, Nat.reduceDiv, Nat.reduceEqDiff, Nat.reduceLT, Nat.reduceLeDiff, Nat.reduceAdd, Nat.reduceSub, reduceIte, Nat.lt_irrefl, Nat.zero_ne_one, Nat.one_ne_zero, Nat.zero_add, List.nil_append, List.cons_append, Option.toList_some, Option.toList_none, forall_const, false_implies, true_implies, false_or, or_false, true_or, or_true, i_le, i_lt, i_eq, i_eq0, i_lt0, i_0le, i_0lt, i_le0, i_in1, i_cl, nI_add, pk_mul, pk_sub, i_div, i_rem, i_sh1, i_bit, i_or, i_and, i_andn, nt_le, nf_le, nt_lt, nf_lt, nt_eq, nf_eq, not_true_eq_false, and_self, and_false, false_and, eq_self, Bool.toNat_true, Bool.toNat_false, i_bool, i_bool1, Bool.false_eq_true, Bool.true_eq_false, reduceCtorEq, i_neg1, i_neg2, i_neg3, i_neg4, i_neg5, i_neg6, i_neg7, i_neg8, i_neg9, i_nega, i_negb, i_negc, i_max2, i_min2, hi])
    exact pm h
  · obtain ⟨i, hi2, rfl⟩ := inb_nat hi
    have hb := hok.2 i hi2
    have hyc := yc_le hok hi2
    have e1 : (nI 1).toInt = 1 := nI_toInt (by decide)
    have e5 : (nI 5).toInt = 5 := nI_toInt (by decide)
    have e6 : (nI 6).toInt = 6 := nI_toInt (by decide)
    by_cases h1 : nI 1 ≤ w ∧ w ≤ nI 5
    · rw [Int32.le_iff_toInt_le, Int32.le_iff_toInt_le, e1, e5] at h1
      obtain ⟨w, w1, w5, rfl⟩ : ∃ g : Nat, 1 ≤ g ∧ g ≤ 5 ∧ w = nI g := ⟨w.toInt.toNat, by omega, by omega, Int32.toInt_inj.mp (by rw [nI_toInt (by omega)]; omega)⟩
      have mb1 : (nI 1 ≤ nI w ∧ nI w ≤ nI 5) ↔ true = true := ⟨fun _ => rfl, fun _ => by rw [i_le (by decide) (by omega), i_le (by omega) (by decide)]; omega⟩
      have hk := isk_t hb.1
      have p0 := prc_le (k := 0) (h := Y 2 i) (c := Y 4 i) (d := Y 6 1) hb.2.1 hb.2.2.2.1
      have p1 := prc_le (k := 1) (h := Y 2 i) (c := Y 4 i) (d := Y 6 1) hb.2.1 hb.2.2.2.1
      have hw : w = 1 ∨ w = 2 ∨ w = 3 ∨ w = 4 ∨ w = 5 := by omega
      cases hik : isk (Y 0 i) w
      · have hno : ¬ (Y 0 i = w) ∧ ¬ (w = 1 ∧ Y 0 i = 4) ∧ ¬ (w = 3 ∧ Y 0 i = 5) := by
          rcases hw with rfl | rfl | rfl | rfl | rfl <;> simp only [hik, Bool.false_eq_true, false_iff] at hk <;> omega
        refine x_entry (ls2 := [aR 7 0, aI (nI i), aI (nI w), aU]) (Nat.le_of_ble_eq_true rfl) pl_8 rfl (Nat.le_of_ble_eq_true rfl) ?_
        try simp (disch := omega) only [no0, no1, nz1, nz2, nz3, nz4, nz5, nz7, nz8, Classical.not_not, bz0, bz1, wi_nil, ld_0, ld_s, isIv_I, isLv_L, isRv_R, true_and, and_true, lset_0, lset_1, lset_s, avw_I, avw_L, avw_R, clr_cons, clr_nil, kst_0, kst_1, kstL_0, kstL_1, addk_I, pA_0, pA_s, pD_0, pD_s, wid_nil, wid_cons, rcv_c, putv_I, putv_L, List.length_cons, List.length_nil, List.set_cons_zero, List.set_cons_succ, not_false_eq_true, Nat.reduceMod, Nat.reduceDiv, Nat.reduceEqDiff, Nat.reduceLT, Nat.reduceLeDiff, Nat.reduceAdd, Nat.reduceSub, reduceIte, Nat.lt_irrefl, Nat.zero_ne_one, Nat.one_ne_zero, Nat.zero_add, List.nil_append, List.cons_append, Option.toList_some, Option.toList_none, forall_const, false_implies, true_implies, false_or, or_false, true_or, or_true, i_le, i_lt, i_eq, i_eq0, i_lt0, i_0le, i_0lt, i_le0, i_in1, i_cl, nI_add, pk_mul, pk_sub, i_div, i_rem, i_sh1, i_bit, i_or, i_and, i_andn, nt_le, nf_le, nt_lt, nf_lt, nt_eq, nf_eq, not_true_eq_false, and_self, and_false, false_and, eq_self, Bool.toNat_true, Bool.toNat_false, i_bool, i_bool1, Bool.false_eq_true, Bool.true_eq_false, reduceCtorEq, i_neg1, i_neg2, i_neg3, i_neg4, i_neg5, i_neg6, i_neg7, i_neg8, i_neg9, i_nega, i_negb, i_negc, i_max2, i_min2, wi_nil]
        repeat (
          first
          | refine s_X8_mark_0 ?_
          | refine s_X8_mark_5 ?_
          | refine s_X8_mark_18 ?_
          | refine s_X8_mark_20 ?_
          | refine s_X8_mark_33 ?_
          | refine s_X8_mark_41 ?_
          | refine s_X8_mark_42 ?_
          | refine s_X8_mark_50 ?_
          | refine s_X8_mark_84 ?_
          | refine s_X8_mark_98 ?_
          | refine s_X8_mark_115 ?_
          | refine s_X8_mark_117 ?_
          | refine s_X8_mark_134 ?_
          | refine s_X8_mark_140 ?_
          | refine s_X8_mark_156 ?_
          | refine s_X8_mark_159 ?_
          | refine s_X8_mark_175 ?_
          | refine s_X8_mark_176 ?_
          simp (disch := omega) only [B_X8_mark_0, wi_aload_n, wi_iload_n, wi_invokevirtual, cnt_7, B_X8_mark_5, wi_if_eq, wi_if_le, wi_bipush, wi_icmp_lt, B_X8_mark_18, wi_iconst, wi_ireturn, B_X8_mark_20, wi_getfield, fldv_7_3, fds_7_3, fldv_6_0, fds_6_0, cnt_6, wi_iaload, wi_invokestatic, cnt_20, aTy_20, aLn_20, arr_20, cnt_24, aTy_24, aLn_24, arr_24, B_X8_mark_33, wi_if_ne, B_X8_mark_41, B_X8_mark_42, B_X8_mark_50, wi_istore_n, wi_tsw, B_X8_mark_84, fldv_6_8, fds_6_8, wi_irem, wi_isub, B_X8_mark_98, B_X8_mark_115, B_X8_mark_117, B_X8_mark_134, wi_max, B_X8_mark_140, B_X8_mark_156, B_X8_mark_159, fldv_6_4, fds_6_4, wi_goto, B_X8_mark_175, B_X8_mark_176, no0, no1, nz1, nz2, nz3, nz4, nz5, nz7, nz8, Classical.not_not, bz0, bz1, wi_nil, ld_0, ld_s, isIv_I, isLv_L, isRv_R, true_and, and_true, lset_0, lset_1, lset_s, avw_I, avw_L, avw_R, clr_cons, clr_nil, kst_0, kst_1, kstL_0, kstL_1, addk_I, pA_0, pA_s, pD_0, pD_s, wid_nil, wid_cons, rcv_c, putv_I, putv_L, List.length_cons, List.length_nil, List.set_cons_zero, List.set_cons_succ, not_false_eq_true, Nat.reduceMod, Nat.reduceDiv, Nat.reduceEqDiff, Nat.reduceLT, Nat.reduceLeDiff, Nat.reduceAdd, Nat.reduceSub, reduceIte, Nat.lt_irrefl, Nat.zero_ne_one, Nat.one_ne_zero, Nat.zero_add, List.nil_append, List.cons_append, Option.toList_some, Option.toList_none, forall_const, false_implies, true_implies, false_or, or_false, true_or, or_true, i_le, i_lt, i_eq, i_eq0, i_lt0, i_0le, i_0lt, i_le0, i_in1, i_cl, nI_add, pk_mul, pk_sub, i_div, i_rem, i_sh1, i_bit, i_or, i_and, i_andn, nt_le, nf_le, nt_lt, nf_lt, nt_eq, nf_eq, not_true_eq_false, and_self, and_false, false_and, eq_self, Bool.toNat_true, Bool.toNat_false, i_bool, i_bool1, Bool.false_eq_true, Bool.true_eq_false, reduceCtorEq, i_neg1, i_neg2, i_neg3, i_neg4, i_neg5, i_neg6, i_neg7, i_neg8, i_neg9, i_nega, i_negb, i_negc, i_max2, i_min2])
        refine c_isDeed hy hn5 ?_
        try simp (disch := omega) only [no0, no1, nz1, nz2, nz3, nz4, nz5, nz7, nz8, Classical.not_not, bz0, bz1, wi_nil, ld_0, ld_s, isIv_I, isLv_L, isRv_R, true_and, and_true, lset_0, lset_1, lset_s, avw_I, avw_L, avw_R, clr_cons, clr_nil, kst_0, kst_1, kstL_0, kstL_1, addk_I, pA_0, pA_s, pD_0, pD_s, wid_nil, wid_cons, rcv_c, putv_I, putv_L, List.length_cons, List.length_nil, List.set_cons_zero, List.set_cons_succ, not_false_eq_true, Nat.reduceMod, Nat.reduceDiv, Nat.reduceEqDiff, Nat.reduceLT, Nat.reduceLeDiff, Nat.reduceAdd, Nat.reduceSub, reduceIte, Nat.lt_irrefl, Nat.zero_ne_one, Nat.one_ne_zero, Nat.zero_add, List.nil_append, List.cons_append, Option.toList_some, Option.toList_none, forall_const, false_implies, true_implies, false_or, or_false, true_or, or_true, i_le, i_lt, i_eq, i_eq0, i_lt0, i_0le, i_0lt, i_le0, i_in1, i_cl, nI_add, pk_mul, pk_sub, i_div, i_rem, i_sh1, i_bit, i_or, i_and, i_andn, nt_le, nf_le, nt_lt, nf_lt, nt_eq, nf_eq, not_true_eq_false, and_self, and_false, false_and, eq_self, Bool.toNat_true, Bool.toNat_false, i_bool, i_bool1, Bool.false_eq_true, Bool.true_eq_false, reduceCtorEq, i_neg1, i_neg2, i_neg3, i_neg4, i_neg5, i_neg6, i_neg7, i_neg8, i_neg9, i_nega, i_negb, i_negc, i_max2, i_min2, hi, (y_kind hy), wi_nil]
        repeat (
          first
          | refine s_X8_mark_0 ?_
          | refine s_X8_mark_5 ?_
          | refine s_X8_mark_18 ?_
          | refine s_X8_mark_20 ?_
          | refine s_X8_mark_33 ?_
          | refine s_X8_mark_41 ?_
          | refine s_X8_mark_42 ?_
          | refine s_X8_mark_50 ?_
          | refine s_X8_mark_84 ?_
          | refine s_X8_mark_98 ?_
          | refine s_X8_mark_115 ?_
          | refine s_X8_mark_117 ?_
          | refine s_X8_mark_134 ?_
          | refine s_X8_mark_140 ?_
          | refine s_X8_mark_156 ?_
          | refine s_X8_mark_159 ?_
          | refine s_X8_mark_175 ?_
          | refine s_X8_mark_176 ?_
          simp (disch := omega) only [B_X8_mark_0, wi_aload_n, wi_iload_n, wi_invokevirtual, cnt_7, B_X8_mark_5, wi_if_eq, wi_if_le, wi_bipush, wi_icmp_lt, B_X8_mark_18, wi_iconst, wi_ireturn, B_X8_mark_20, wi_getfield, fldv_7_3, fds_7_3, fldv_6_0, fds_6_0, cnt_6, wi_iaload, wi_invokestatic, cnt_20, aTy_20, aLn_20, arr_20, cnt_24, aTy_24, aLn_24, arr_24, B_X8_mark_33, wi_if_ne, B_X8_mark_41, B_X8_mark_42, B_X8_mark_50, wi_istore_n, wi_tsw, B_X8_mark_84, fldv_6_8, fds_6_8, wi_irem, wi_isub, B_X8_mark_98, B_X8_mark_115, B_X8_mark_117, B_X8_mark_134, wi_max, B_X8_mark_140, B_X8_mark_156, B_X8_mark_159, fldv_6_4, fds_6_4, wi_goto, B_X8_mark_175, B_X8_mark_176, no0, no1, nz1, nz2, nz3, nz4, nz5, nz7, nz8, Classical.not_not, bz0, bz1, wi_nil, ld_0, ld_s, isIv_I, isLv_L, isRv_R, true_and, and_true, lset_0, lset_1, lset_s, avw_I, avw_L, avw_R, clr_cons, clr_nil, kst_0, kst_1, kstL_0, kstL_1, addk_I, pA_0, pA_s, pD_0, pD_s, wid_nil, wid_cons, rcv_c, putv_I, putv_L, List.length_cons, List.length_nil, List.set_cons_zero, List.set_cons_succ, not_false_eq_true, Nat.reduceMod, Nat.reduceDiv, Nat.reduceEqDiff, Nat.reduceLT, Nat.reduceLeDiff, Nat.reduceAdd, Nat.reduceSub, reduceIte, Nat.lt_irrefl, Nat.zero_ne_one, Nat.one_ne_zero, Nat.zero_add, List.nil_append, List.cons_append, Option.toList_some, Option.toList_none, forall_const, false_implies, true_implies, false_or, or_false, true_or, or_true, i_le, i_lt, i_eq, i_eq0, i_lt0, i_0le, i_0lt, i_le0, i_in1, i_cl, nI_add, pk_mul, pk_sub, i_div, i_rem, i_sh1, i_bit, i_or, i_and, i_andn, nt_le, nf_le, nt_lt, nf_lt, nt_eq, nf_eq, not_true_eq_false, and_self, and_false, false_and, eq_self, Bool.toNat_true, Bool.toNat_false, i_bool, i_bool1, Bool.false_eq_true, Bool.true_eq_false, reduceCtorEq, i_neg1, i_neg2, i_neg3, i_neg4, i_neg5, i_neg6, i_neg7, i_neg8, i_neg9, i_nega, i_negb, i_negc, i_max2, i_min2, hi, (y_kind hy)])
        refine c_isOf hb.1 (by omega) ?_
        try simp (disch := omega) only [no0, no1, nz1, nz2, nz3, nz4, nz5, nz7, nz8, Classical.not_not, bz0, bz1, wi_nil, ld_0, ld_s, isIv_I, isLv_L, isRv_R, true_and, and_true, lset_0, lset_1, lset_s, avw_I, avw_L, avw_R, clr_cons, clr_nil, kst_0, kst_1, kstL_0, kstL_1, addk_I, pA_0, pA_s, pD_0, pD_s, wid_nil, wid_cons, rcv_c, putv_I, putv_L, List.length_cons, List.length_nil, List.set_cons_zero, List.set_cons_succ, not_false_eq_true, Nat.reduceMod, Nat.reduceDiv, Nat.reduceEqDiff, Nat.reduceLT, Nat.reduceLeDiff, Nat.reduceAdd, Nat.reduceSub, reduceIte, Nat.lt_irrefl, Nat.zero_ne_one, Nat.one_ne_zero, Nat.zero_add, List.nil_append, List.cons_append, Option.toList_some, Option.toList_none, forall_const, false_implies, true_implies, false_or, or_false, true_or, or_true, i_le, i_lt, i_eq, i_eq0, i_lt0, i_0le, i_0lt, i_le0, i_in1, i_cl, nI_add, pk_mul, pk_sub, i_div, i_rem, i_sh1, i_bit, i_or, i_and, i_andn, nt_le, nf_le, nt_lt, nf_lt, nt_eq, nf_eq, not_true_eq_false, and_self, and_false, false_and, eq_self, Bool.toNat_true, Bool.toNat_false, i_bool, i_bool1, Bool.false_eq_true, Bool.true_eq_false, reduceCtorEq, i_neg1, i_neg2, i_neg3, i_neg4, i_neg5, i_neg6, i_neg7, i_neg8, i_neg9, i_nega, i_negb, i_negc, i_max2, i_min2, hik, wi_nil]
        repeat (
          first
          | refine s_X8_mark_0 ?_
          | refine s_X8_mark_5 ?_
          | refine s_X8_mark_18 ?_
          | refine s_X8_mark_20 ?_
          | refine s_X8_mark_33 ?_
          | refine s_X8_mark_41 ?_
          | refine s_X8_mark_42 ?_
          | refine s_X8_mark_50 ?_
          | refine s_X8_mark_84 ?_
          | refine s_X8_mark_98 ?_
          | refine s_X8_mark_115 ?_
          | refine s_X8_mark_117 ?_
          | refine s_X8_mark_134 ?_
          | refine s_X8_mark_140 ?_
          | refine s_X8_mark_156 ?_
          | refine s_X8_mark_159 ?_
          | refine s_X8_mark_175 ?_
          | refine s_X8_mark_176 ?_
          simp (disch := omega) only [B_X8_mark_0, wi_aload_n, wi_iload_n, wi_invokevirtual, cnt_7, B_X8_mark_5, wi_if_eq, wi_if_le, wi_bipush, wi_icmp_lt, B_X8_mark_18, wi_iconst, wi_ireturn, B_X8_mark_20, wi_getfield, fldv_7_3, fds_7_3, fldv_6_0, fds_6_0, cnt_6, wi_iaload, wi_invokestatic, cnt_20, aTy_20, aLn_20, arr_20, cnt_24, aTy_24, aLn_24, arr_24, B_X8_mark_33, wi_if_ne, B_X8_mark_41, B_X8_mark_42, B_X8_mark_50, wi_istore_n, wi_tsw, B_X8_mark_84, fldv_6_8, fds_6_8, wi_irem, wi_isub, B_X8_mark_98, B_X8_mark_115, B_X8_mark_117, B_X8_mark_134, wi_max, B_X8_mark_140, B_X8_mark_156, B_X8_mark_159, fldv_6_4, fds_6_4, wi_goto, B_X8_mark_175, B_X8_mark_176, no0, no1, nz1, nz2, nz3, nz4, nz5, nz7, nz8, Classical.not_not, bz0, bz1, wi_nil, ld_0, ld_s, isIv_I, isLv_L, isRv_R, true_and, and_true, lset_0, lset_1, lset_s, avw_I, avw_L, avw_R, clr_cons, clr_nil, kst_0, kst_1, kstL_0, kstL_1, addk_I, pA_0, pA_s, pD_0, pD_s, wid_nil, wid_cons, rcv_c, putv_I, putv_L, List.length_cons, List.length_nil, List.set_cons_zero, List.set_cons_succ, not_false_eq_true, Nat.reduceMod, Nat.reduceDiv, Nat.reduceEqDiff, Nat.reduceLT, Nat.reduceLeDiff, Nat.reduceAdd, Nat.reduceSub, reduceIte, Nat.lt_irrefl, Nat.zero_ne_one, Nat.one_ne_zero, Nat.zero_add, List.nil_append, List.cons_append, Option.toList_some, Option.toList_none, forall_const, false_implies, true_implies, false_or, or_false, true_or, or_true, i_le, i_lt, i_eq, i_eq0, i_lt0, i_0le, i_0lt, i_le0, i_in1, i_cl, nI_add, pk_mul, pk_sub, i_div, i_rem, i_sh1, i_bit, i_or, i_and, i_andn, nt_le, nf_le, nt_lt, nf_lt, nt_eq, nf_eq, not_true_eq_false, and_self, and_false, false_and, eq_self, Bool.toNat_true, Bool.toNat_false, i_bool, i_bool1, Bool.false_eq_true, Bool.true_eq_false, reduceCtorEq, i_neg1, i_neg2, i_neg3, i_neg4, i_neg5, i_neg6, i_neg7, i_neg8, i_neg9, i_nega, i_negb, i_negc, i_max2, i_min2, hik])
        refine c_refuse (by decide) ?_
        try simp (disch := omega) only [no0, no1, nz1, nz2, nz3, nz4, nz5, nz7, nz8, Classical.not_not, bz0, bz1, wi_nil, ld_0, ld_s, isIv_I, isLv_L, isRv_R, true_and, and_true, lset_0, lset_1, lset_s, avw_I, avw_L, avw_R, clr_cons, clr_nil, kst_0, kst_1, kstL_0, kstL_1, addk_I, pA_0, pA_s, pD_0, pD_s, wid_nil, wid_cons, rcv_c, putv_I, putv_L, List.length_cons, List.length_nil, List.set_cons_zero, List.set_cons_succ, not_false_eq_true, Nat.reduceMod, Nat.reduceDiv, Nat.reduceEqDiff, Nat.reduceLT, Nat.reduceLeDiff, Nat.reduceAdd, Nat.reduceSub, reduceIte, Nat.lt_irrefl, Nat.zero_ne_one, Nat.one_ne_zero, Nat.zero_add, List.nil_append, List.cons_append, Option.toList_some, Option.toList_none, forall_const, false_implies, true_implies, false_or, or_false, true_or, or_true, i_le, i_lt, i_eq, i_eq0, i_lt0, i_0le, i_0lt, i_le0, i_in1, i_cl, nI_add, pk_mul, pk_sub, i_div, i_rem, i_sh1, i_bit, i_or, i_and, i_andn, nt_le, nf_le, nt_lt, nf_lt, nt_eq, nf_eq, not_true_eq_false, and_self, and_false, false_and, eq_self, Bool.toNat_true, Bool.toNat_false, i_bool, i_bool1, Bool.false_eq_true, Bool.true_eq_false, reduceCtorEq, i_neg1, i_neg2, i_neg3, i_neg4, i_neg5, i_neg6, i_neg7, i_neg8, i_neg9, i_nega, i_negb, i_negc, i_max2, i_min2, wi_nil]
        repeat (
          first
          | refine s_X8_mark_0 ?_
          | refine s_X8_mark_5 ?_
          | refine s_X8_mark_18 ?_
          | refine s_X8_mark_20 ?_
          | refine s_X8_mark_33 ?_
          | refine s_X8_mark_41 ?_
          | refine s_X8_mark_42 ?_
          | refine s_X8_mark_50 ?_
          | refine s_X8_mark_84 ?_
          | refine s_X8_mark_98 ?_
          | refine s_X8_mark_115 ?_
          | refine s_X8_mark_117 ?_
          | refine s_X8_mark_134 ?_
          | refine s_X8_mark_140 ?_
          | refine s_X8_mark_156 ?_
          | refine s_X8_mark_159 ?_
          | refine s_X8_mark_175 ?_
          | refine s_X8_mark_176 ?_
          simp (disch := omega) only [B_X8_mark_0, wi_aload_n, wi_iload_n, wi_invokevirtual, cnt_7, B_X8_mark_5, wi_if_eq, wi_if_le, wi_bipush, wi_icmp_lt, B_X8_mark_18, wi_iconst, wi_ireturn, B_X8_mark_20, wi_getfield, fldv_7_3, fds_7_3, fldv_6_0, fds_6_0, cnt_6, wi_iaload, wi_invokestatic, cnt_20, aTy_20, aLn_20, arr_20, cnt_24, aTy_24, aLn_24, arr_24, B_X8_mark_33, wi_if_ne, B_X8_mark_41, B_X8_mark_42, B_X8_mark_50, wi_istore_n, wi_tsw, B_X8_mark_84, fldv_6_8, fds_6_8, wi_irem, wi_isub, B_X8_mark_98, B_X8_mark_115, B_X8_mark_117, B_X8_mark_134, wi_max, B_X8_mark_140, B_X8_mark_156, B_X8_mark_159, fldv_6_4, fds_6_4, wi_goto, B_X8_mark_175, B_X8_mark_176, no0, no1, nz1, nz2, nz3, nz4, nz5, nz7, nz8, Classical.not_not, bz0, bz1, wi_nil, ld_0, ld_s, isIv_I, isLv_L, isRv_R, true_and, and_true, lset_0, lset_1, lset_s, avw_I, avw_L, avw_R, clr_cons, clr_nil, kst_0, kst_1, kstL_0, kstL_1, addk_I, pA_0, pA_s, pD_0, pD_s, wid_nil, wid_cons, rcv_c, putv_I, putv_L, List.length_cons, List.length_nil, List.set_cons_zero, List.set_cons_succ, not_false_eq_true, Nat.reduceMod, Nat.reduceDiv, Nat.reduceEqDiff, Nat.reduceLT, Nat.reduceLeDiff, Nat.reduceAdd, Nat.reduceSub, reduceIte, Nat.lt_irrefl, Nat.zero_ne_one, Nat.one_ne_zero, Nat.zero_add, List.nil_append, List.cons_append, Option.toList_some, Option.toList_none, forall_const, false_implies, true_implies, false_or, or_false, true_or, or_true, i_le, i_lt, i_eq, i_eq0, i_lt0, i_0le, i_0lt, i_le0, i_in1, i_cl, nI_add, pk_mul, pk_sub, i_div, i_rem, i_sh1, i_bit, i_or, i_and, i_andn, nt_le, nf_le, nt_lt, nf_lt, nt_eq, nf_eq, not_true_eq_false, and_self, and_false, false_and, eq_self, Bool.toNat_true, Bool.toNat_false, i_bool, i_bool1, Bool.false_eq_true, Bool.true_eq_false, reduceCtorEq, i_neg1, i_neg2, i_neg3, i_neg4, i_neg5, i_neg6, i_neg7, i_neg8, i_neg9, i_nega, i_negb, i_negc, i_max2, i_min2])
        refine px ?_
        have hm2 : YrM (xRef 3 S) 40 Y := hm
        refine x_entry (ls2 := [aR 8 0, aI (nI i), aI (nI w), aU, aU]) (Nat.le_of_ble_eq_true rfl) pl_9 rfl (Nat.le_of_ble_eq_true rfl) ?_
        try simp (disch := omega) only [no0, no1, nz1, nz2, nz3, nz4, nz5, nz7, nz8, Classical.not_not, bz0, bz1, wi_nil, ld_0, ld_s, isIv_I, isLv_L, isRv_R, true_and, and_true, lset_0, lset_1, lset_s, avw_I, avw_L, avw_R, clr_cons, clr_nil, kst_0, kst_1, kstL_0, kstL_1, addk_I, pA_0, pA_s, pD_0, pD_s, wid_nil, wid_cons, rcv_c, putv_I, putv_L, List.length_cons, List.length_nil, List.set_cons_zero, List.set_cons_succ, not_false_eq_true, Nat.reduceMod, Nat.reduceDiv, Nat.reduceEqDiff, Nat.reduceLT, Nat.reduceLeDiff, Nat.reduceAdd, Nat.reduceSub, reduceIte, Nat.lt_irrefl, Nat.zero_ne_one, Nat.one_ne_zero, Nat.zero_add, List.nil_append, List.cons_append, Option.toList_some, Option.toList_none, forall_const, false_implies, true_implies, false_or, or_false, true_or, or_true, i_le, i_lt, i_eq, i_eq0, i_lt0, i_0le, i_0lt, i_le0, i_in1, i_cl, nI_add, pk_mul, pk_sub, i_div, i_rem, i_sh1, i_bit, i_or, i_and, i_andn, nt_le, nf_le, nt_lt, nf_lt, nt_eq, nf_eq, not_true_eq_false, and_self, and_false, false_and, eq_self, Bool.toNat_true, Bool.toNat_false, i_bool, i_bool1, Bool.false_eq_true, Bool.true_eq_false, reduceCtorEq, i_neg1, i_neg2, i_neg3, i_neg4, i_neg5, i_neg6, i_neg7, i_neg8, i_neg9, i_nega, i_negb, i_negc, i_max2, i_min2, wi_nil]
        repeat (
          first
          | refine s_X9_mark_0 ?_
          | refine s_X9_mark_5 ?_
          | refine s_X9_mark_14 ?_
          | refine s_X9_mark_17 ?_
          | refine s_X9_mark_19 ?_
          | refine s_X9_mark_41 ?_
          | refine s_X9_mark_51 ?_
          | refine s_X9_mark_56 ?_
          | refine s_X9_mark_57 ?_
          | refine s_X9_mark_66 ?_
          | refine s_X9_mark_100 ?_
          | refine s_X9_mark_113 ?_
          | refine s_X9_mark_121 ?_
          | refine s_X9_mark_123 ?_
          | refine s_X9_mark_129 ?_
          | refine s_X9_mark_140 ?_
          | refine s_X9_mark_146 ?_
          | refine s_X9_mark_147 ?_
          | refine s_X9_mark_148 ?_
          | refine s_X9_mark_154 ?_
          | refine s_X9_mark_158 ?_
          | refine s_X9_mark_174 ?_
          | refine s_X9_mark_175 ?_
          simp (disch := omega) only [B_X9_mark_0, wi_aload_n, wi_iload_n, wi_invokevirtual, cnt_8, B_X9_mark_5, wi_if_eq, wi_iconst, wi_invokestatic, B_X9_mark_14, wi_if_ne, B_X9_mark_17, wi_ireturn, B_X9_mark_19, wi_getfield, fldv_8_11, fds_8_11, wi_iaload, wi_istore_n, wi_icmp_eq, wi_icmp_ne, cnt_36, aTy_36, aLn_36, arr_36, cnt_40, aTy_40, aLn_40, arr_40, B_X9_mark_41, B_X9_mark_51, B_X9_mark_56, B_X9_mark_57, fldv_8_20, fds_8_20, B_X9_mark_66, wi_istore, wi_tsw, B_X9_mark_100, wi_irem, wi_isub, B_X9_mark_113, wi_iload, B_X9_mark_121, B_X9_mark_123, B_X9_mark_129, wi_icmp_le, B_X9_mark_140, wi_goto, B_X9_mark_146, B_X9_mark_147, B_X9_mark_148, B_X9_mark_154, B_X9_mark_158, wi_bipush, wi_iadd, B_X9_mark_174, B_X9_mark_175, no0, no1, nz1, nz2, nz3, nz4, nz5, nz7, nz8, Classical.not_not, bz0, bz1, wi_nil, ld_0, ld_s, isIv_I, isLv_L, isRv_R, true_and, and_true, lset_0, lset_1, lset_s, avw_I, avw_L, avw_R, clr_cons, clr_nil, kst_0, kst_1, kstL_0, kstL_1, addk_I, pA_0, pA_s, pD_0, pD_s, wid_nil, wid_cons, rcv_c, putv_I, putv_L, List.length_cons, List.length_nil, List.set_cons_zero, List.set_cons_succ, not_false_eq_true, Nat.reduceMod, Nat.reduceDiv, Nat.reduceEqDiff, Nat.reduceLT, Nat.reduceLeDiff, Nat.reduceAdd, Nat.reduceSub, reduceIte, Nat.lt_irrefl, Nat.zero_ne_one, Nat.one_ne_zero, Nat.zero_add, List.nil_append, List.cons_append, Option.toList_some, Option.toList_none, forall_const, false_implies, true_implies, false_or, or_false, true_or, or_true, i_le, i_lt, i_eq, i_eq0, i_lt0, i_0le, i_0lt, i_le0, i_in1, i_cl, nI_add, pk_mul, pk_sub, i_div, i_rem, i_sh1, i_bit, i_or, i_and, i_andn, nt_le, nf_le, nt_lt, nf_lt, nt_eq, nf_eq, not_true_eq_false, and_self, and_false, false_and, eq_self, Bool.toNat_true, Bool.toNat_false, i_bool, i_bool1, Bool.false_eq_true, Bool.true_eq_false, reduceCtorEq, i_neg1, i_neg2, i_neg3, i_neg4, i_neg5, i_neg6, i_neg7, i_neg8, i_neg9, i_nega, i_negb, i_negc, i_max2, i_min2])
        refine c_mDeed hm2 hn5 ?_
        try simp (disch := omega) only [no0, no1, nz1, nz2, nz3, nz4, nz5, nz7, nz8, Classical.not_not, bz0, bz1, wi_nil, ld_0, ld_s, isIv_I, isLv_L, isRv_R, true_and, and_true, lset_0, lset_1, lset_s, avw_I, avw_L, avw_R, clr_cons, clr_nil, kst_0, kst_1, kstL_0, kstL_1, addk_I, pA_0, pA_s, pD_0, pD_s, wid_nil, wid_cons, rcv_c, putv_I, putv_L, List.length_cons, List.length_nil, List.set_cons_zero, List.set_cons_succ, not_false_eq_true, Nat.reduceMod, Nat.reduceDiv, Nat.reduceEqDiff, Nat.reduceLT, Nat.reduceLeDiff, Nat.reduceAdd, Nat.reduceSub, reduceIte, Nat.lt_irrefl, Nat.zero_ne_one, Nat.one_ne_zero, Nat.zero_add, List.nil_append, List.cons_append, Option.toList_some, Option.toList_none, forall_const, false_implies, true_implies, false_or, or_false, true_or, or_true, i_le, i_lt, i_eq, i_eq0, i_lt0, i_0le, i_0lt, i_le0, i_in1, i_cl, nI_add, pk_mul, pk_sub, i_div, i_rem, i_sh1, i_bit, i_or, i_and, i_andn, nt_le, nf_le, nt_lt, nf_lt, nt_eq, nf_eq, not_true_eq_false, and_self, and_false, false_and, eq_self, Bool.toNat_true, Bool.toNat_false, i_bool, i_bool1, Bool.false_eq_true, Bool.true_eq_false, reduceCtorEq, i_neg1, i_neg2, i_neg3, i_neg4, i_neg5, i_neg6, i_neg7, i_neg8, i_neg9, i_nega, i_negb, i_negc, i_max2, i_min2, hi, wi_nil]
        repeat (
          first
          | refine s_X9_mark_0 ?_
          | refine s_X9_mark_5 ?_
          | refine s_X9_mark_14 ?_
          | refine s_X9_mark_17 ?_
          | refine s_X9_mark_19 ?_
          | refine s_X9_mark_41 ?_
          | refine s_X9_mark_51 ?_
          | refine s_X9_mark_56 ?_
          | refine s_X9_mark_57 ?_
          | refine s_X9_mark_66 ?_
          | refine s_X9_mark_100 ?_
          | refine s_X9_mark_113 ?_
          | refine s_X9_mark_121 ?_
          | refine s_X9_mark_123 ?_
          | refine s_X9_mark_129 ?_
          | refine s_X9_mark_140 ?_
          | refine s_X9_mark_146 ?_
          | refine s_X9_mark_147 ?_
          | refine s_X9_mark_148 ?_
          | refine s_X9_mark_154 ?_
          | refine s_X9_mark_158 ?_
          | refine s_X9_mark_174 ?_
          | refine s_X9_mark_175 ?_
          simp (disch := omega) only [B_X9_mark_0, wi_aload_n, wi_iload_n, wi_invokevirtual, cnt_8, B_X9_mark_5, wi_if_eq, wi_iconst, wi_invokestatic, B_X9_mark_14, wi_if_ne, B_X9_mark_17, wi_ireturn, B_X9_mark_19, wi_getfield, fldv_8_11, fds_8_11, wi_iaload, wi_istore_n, wi_icmp_eq, wi_icmp_ne, cnt_36, aTy_36, aLn_36, arr_36, cnt_40, aTy_40, aLn_40, arr_40, B_X9_mark_41, B_X9_mark_51, B_X9_mark_56, B_X9_mark_57, fldv_8_20, fds_8_20, B_X9_mark_66, wi_istore, wi_tsw, B_X9_mark_100, wi_irem, wi_isub, B_X9_mark_113, wi_iload, B_X9_mark_121, B_X9_mark_123, B_X9_mark_129, wi_icmp_le, B_X9_mark_140, wi_goto, B_X9_mark_146, B_X9_mark_147, B_X9_mark_148, B_X9_mark_154, B_X9_mark_158, wi_bipush, wi_iadd, B_X9_mark_174, B_X9_mark_175, no0, no1, nz1, nz2, nz3, nz4, nz5, nz7, nz8, Classical.not_not, bz0, bz1, wi_nil, ld_0, ld_s, isIv_I, isLv_L, isRv_R, true_and, and_true, lset_0, lset_1, lset_s, avw_I, avw_L, avw_R, clr_cons, clr_nil, kst_0, kst_1, kstL_0, kstL_1, addk_I, pA_0, pA_s, pD_0, pD_s, wid_nil, wid_cons, rcv_c, putv_I, putv_L, List.length_cons, List.length_nil, List.set_cons_zero, List.set_cons_succ, not_false_eq_true, Nat.reduceMod, Nat.reduceDiv, Nat.reduceEqDiff, Nat.reduceLT, Nat.reduceLeDiff, Nat.reduceAdd, Nat.reduceSub, reduceIte, Nat.lt_irrefl, Nat.zero_ne_one, Nat.one_ne_zero, Nat.zero_add, List.nil_append, List.cons_append, Option.toList_some, Option.toList_none, forall_const, false_implies, true_implies, false_or, or_false, true_or, or_true, i_le, i_lt, i_eq, i_eq0, i_lt0, i_0le, i_0lt, i_le0, i_in1, i_cl, nI_add, pk_mul, pk_sub, i_div, i_rem, i_sh1, i_bit, i_or, i_and, i_andn, nt_le, nf_le, nt_lt, nf_lt, nt_eq, nf_eq, not_true_eq_false, and_self, and_false, false_and, eq_self, Bool.toNat_true, Bool.toNat_false, i_bool, i_bool1, Bool.false_eq_true, Bool.true_eq_false, reduceCtorEq, i_neg1, i_neg2, i_neg3, i_neg4, i_neg5, i_neg6, i_neg7, i_neg8, i_neg9, i_nega, i_negb, i_negc, i_max2, i_min2, hi])
        refine c_in mb1 ?_
        try simp (disch := omega) only [no0, no1, nz1, nz2, nz3, nz4, nz5, nz7, nz8, Classical.not_not, bz0, bz1, wi_nil, ld_0, ld_s, isIv_I, isLv_L, isRv_R, true_and, and_true, lset_0, lset_1, lset_s, avw_I, avw_L, avw_R, clr_cons, clr_nil, kst_0, kst_1, kstL_0, kstL_1, addk_I, pA_0, pA_s, pD_0, pD_s, wid_nil, wid_cons, rcv_c, putv_I, putv_L, List.length_cons, List.length_nil, List.set_cons_zero, List.set_cons_succ, not_false_eq_true, Nat.reduceMod, Nat.reduceDiv, Nat.reduceEqDiff, Nat.reduceLT, Nat.reduceLeDiff, Nat.reduceAdd, Nat.reduceSub, reduceIte, Nat.lt_irrefl, Nat.zero_ne_one, Nat.one_ne_zero, Nat.zero_add, List.nil_append, List.cons_append, Option.toList_some, Option.toList_none, forall_const, false_implies, true_implies, false_or, or_false, true_or, or_true, i_le, i_lt, i_eq, i_eq0, i_lt0, i_0le, i_0lt, i_le0, i_in1, i_cl, nI_add, pk_mul, pk_sub, i_div, i_rem, i_sh1, i_bit, i_or, i_and, i_andn, nt_le, nf_le, nt_lt, nf_lt, nt_eq, nf_eq, not_true_eq_false, and_self, and_false, false_and, eq_self, Bool.toNat_true, Bool.toNat_false, i_bool, i_bool1, Bool.false_eq_true, Bool.true_eq_false, reduceCtorEq, i_neg1, i_neg2, i_neg3, i_neg4, i_neg5, i_neg6, i_neg7, i_neg8, i_neg9, i_nega, i_negb, i_negc, i_max2, i_min2, (m_kind hm2), wi_nil]
        repeat (
          first
          | refine s_X9_mark_0 ?_
          | refine s_X9_mark_5 ?_
          | refine s_X9_mark_14 ?_
          | refine s_X9_mark_17 ?_
          | refine s_X9_mark_19 ?_
          | refine s_X9_mark_41 ?_
          | refine s_X9_mark_51 ?_
          | refine s_X9_mark_56 ?_
          | refine s_X9_mark_57 ?_
          | refine s_X9_mark_66 ?_
          | refine s_X9_mark_100 ?_
          | refine s_X9_mark_113 ?_
          | refine s_X9_mark_121 ?_
          | refine s_X9_mark_123 ?_
          | refine s_X9_mark_129 ?_
          | refine s_X9_mark_140 ?_
          | refine s_X9_mark_146 ?_
          | refine s_X9_mark_147 ?_
          | refine s_X9_mark_148 ?_
          | refine s_X9_mark_154 ?_
          | refine s_X9_mark_158 ?_
          | refine s_X9_mark_174 ?_
          | refine s_X9_mark_175 ?_
          simp (disch := omega) only [B_X9_mark_0, wi_aload_n, wi_iload_n, wi_invokevirtual, cnt_8, B_X9_mark_5, wi_if_eq, wi_iconst, wi_invokestatic, B_X9_mark_14, wi_if_ne, B_X9_mark_17, wi_ireturn, B_X9_mark_19, wi_getfield, fldv_8_11, fds_8_11, wi_iaload, wi_istore_n, wi_icmp_eq, wi_icmp_ne, cnt_36, aTy_36, aLn_36, arr_36, cnt_40, aTy_40, aLn_40, arr_40, B_X9_mark_41, B_X9_mark_51, B_X9_mark_56, B_X9_mark_57, fldv_8_20, fds_8_20, B_X9_mark_66, wi_istore, wi_tsw, B_X9_mark_100, wi_irem, wi_isub, B_X9_mark_113, wi_iload, B_X9_mark_121, B_X9_mark_123, B_X9_mark_129, wi_icmp_le, B_X9_mark_140, wi_goto, B_X9_mark_146, B_X9_mark_147, B_X9_mark_148, B_X9_mark_154, B_X9_mark_158, wi_bipush, wi_iadd, B_X9_mark_174, B_X9_mark_175, no0, no1, nz1, nz2, nz3, nz4, nz5, nz7, nz8, Classical.not_not, bz0, bz1, wi_nil, ld_0, ld_s, isIv_I, isLv_L, isRv_R, true_and, and_true, lset_0, lset_1, lset_s, avw_I, avw_L, avw_R, clr_cons, clr_nil, kst_0, kst_1, kstL_0, kstL_1, addk_I, pA_0, pA_s, pD_0, pD_s, wid_nil, wid_cons, rcv_c, putv_I, putv_L, List.length_cons, List.length_nil, List.set_cons_zero, List.set_cons_succ, not_false_eq_true, Nat.reduceMod, Nat.reduceDiv, Nat.reduceEqDiff, Nat.reduceLT, Nat.reduceLeDiff, Nat.reduceAdd, Nat.reduceSub, reduceIte, Nat.lt_irrefl, Nat.zero_ne_one, Nat.one_ne_zero, Nat.zero_add, List.nil_append, List.cons_append, Option.toList_some, Option.toList_none, forall_const, false_implies, true_implies, false_or, or_false, true_or, or_true, i_le, i_lt, i_eq, i_eq0, i_lt0, i_0le, i_0lt, i_le0, i_in1, i_cl, nI_add, pk_mul, pk_sub, i_div, i_rem, i_sh1, i_bit, i_or, i_and, i_andn, nt_le, nf_le, nt_lt, nf_lt, nt_eq, nf_eq, not_true_eq_false, and_self, and_false, false_and, eq_self, Bool.toNat_true, Bool.toNat_false, i_bool, i_bool1, Bool.false_eq_true, Bool.true_eq_false, reduceCtorEq, i_neg1, i_neg2, i_neg3, i_neg4, i_neg5, i_neg6, i_neg7, i_neg8, i_neg9, i_nega, i_negb, i_negc, i_max2, i_min2, (m_kind hm2)])
        rcases hw with rfl | rfl | rfl | rfl | rfl
        · try simp (disch := omega) only [no0, no1, nz1, nz2, nz3, nz4, nz5, nz7, nz8, Classical.not_not, bz0, bz1, wi_nil, ld_0, ld_s, isIv_I, isLv_L, isRv_R, true_and, and_true, lset_0, lset_1, lset_s, avw_I, avw_L, avw_R, clr_cons, clr_nil, kst_0, kst_1, kstL_0, kstL_1, addk_I, pA_0, pA_s, pD_0, pD_s, wid_nil, wid_cons, rcv_c, putv_I, putv_L, List.length_cons, List.length_nil, List.set_cons_zero, List.set_cons_succ, not_false_eq_true, Nat.reduceMod, Nat.reduceDiv, Nat.reduceEqDiff, Nat.reduceLT, Nat.reduceLeDiff, Nat.reduceAdd, Nat.reduceSub, reduceIte, Nat.lt_irrefl, Nat.zero_ne_one, Nat.one_ne_zero, Nat.zero_add, List.nil_append, List.cons_append, Option.toList_some, Option.toList_none, forall_const, false_implies, true_implies, false_or, or_false, true_or, or_true, i_le, i_lt, i_eq, i_eq0, i_lt0, i_0le, i_0lt, i_le0, i_in1, i_cl, nI_add, pk_mul, pk_sub, i_div, i_rem, i_sh1, i_bit, i_or, i_and, i_andn, nt_le, nf_le, nt_lt, nf_lt, nt_eq, nf_eq, not_true_eq_false, and_self, and_false, false_and, eq_self, Bool.toNat_true, Bool.toNat_false, i_bool, i_bool1, Bool.false_eq_true, Bool.true_eq_false, reduceCtorEq, i_neg1, i_neg2, i_neg3, i_neg4, i_neg5, i_neg6, i_neg7, i_neg8, i_neg9, i_nega, i_negb, i_negc, i_max2, i_min2, wi_nil]
          repeat (
            first
            | refine s_X9_mark_0 ?_
            | refine s_X9_mark_5 ?_
            | refine s_X9_mark_14 ?_
            | refine s_X9_mark_17 ?_
            | refine s_X9_mark_19 ?_
            | refine s_X9_mark_41 ?_
            | refine s_X9_mark_51 ?_
            | refine s_X9_mark_56 ?_
            | refine s_X9_mark_57 ?_
            | refine s_X9_mark_66 ?_
            | refine s_X9_mark_100 ?_
            | refine s_X9_mark_113 ?_
            | refine s_X9_mark_121 ?_
            | refine s_X9_mark_123 ?_
            | refine s_X9_mark_129 ?_
            | refine s_X9_mark_140 ?_
            | refine s_X9_mark_146 ?_
            | refine s_X9_mark_147 ?_
            | refine s_X9_mark_148 ?_
            | refine s_X9_mark_154 ?_
            | refine s_X9_mark_158 ?_
            | refine s_X9_mark_174 ?_
            | refine s_X9_mark_175 ?_
            simp (disch := omega) only [B_X9_mark_0, wi_aload_n, wi_iload_n, wi_invokevirtual, cnt_8, B_X9_mark_5, wi_if_eq, wi_iconst, wi_invokestatic, B_X9_mark_14, wi_if_ne, B_X9_mark_17, wi_ireturn, B_X9_mark_19, wi_getfield, fldv_8_11, fds_8_11, wi_iaload, wi_istore_n, wi_icmp_eq, wi_icmp_ne, cnt_36, aTy_36, aLn_36, arr_36, cnt_40, aTy_40, aLn_40, arr_40, B_X9_mark_41, B_X9_mark_51, B_X9_mark_56, B_X9_mark_57, fldv_8_20, fds_8_20, B_X9_mark_66, wi_istore, wi_tsw, B_X9_mark_100, wi_irem, wi_isub, B_X9_mark_113, wi_iload, B_X9_mark_121, B_X9_mark_123, B_X9_mark_129, wi_icmp_le, B_X9_mark_140, wi_goto, B_X9_mark_146, B_X9_mark_147, B_X9_mark_148, B_X9_mark_154, B_X9_mark_158, wi_bipush, wi_iadd, B_X9_mark_174, B_X9_mark_175, no0, no1, nz1, nz2, nz3, nz4, nz5, nz7, nz8, Classical.not_not, bz0, bz1, wi_nil, ld_0, ld_s, isIv_I, isLv_L, isRv_R, true_and, and_true, lset_0, lset_1, lset_s, avw_I, avw_L, avw_R, clr_cons, clr_nil, kst_0, kst_1, kstL_0, kstL_1, addk_I, pA_0, pA_s, pD_0, pD_s, wid_nil, wid_cons, rcv_c, putv_I, putv_L, List.length_cons, List.length_nil, List.set_cons_zero, List.set_cons_succ, not_false_eq_true, Nat.reduceMod, Nat.reduceDiv, Nat.reduceEqDiff, Nat.reduceLT, Nat.reduceLeDiff, Nat.reduceAdd, Nat.reduceSub, reduceIte, Nat.lt_irrefl, Nat.zero_ne_one, Nat.one_ne_zero, Nat.zero_add, List.nil_append, List.cons_append, Option.toList_some, Option.toList_none, forall_const, false_implies, true_implies, false_or, or_false, true_or, or_true, i_le, i_lt, i_eq, i_eq0, i_lt0, i_0le, i_0lt, i_le0, i_in1, i_cl, nI_add, pk_mul, pk_sub, i_div, i_rem, i_sh1, i_bit, i_or, i_and, i_andn, nt_le, nf_le, nt_lt, nf_lt, nt_eq, nf_eq, not_true_eq_false, and_self, and_false, false_and, eq_self, Bool.toNat_true, Bool.toNat_false, i_bool, i_bool1, Bool.false_eq_true, Bool.true_eq_false, reduceCtorEq, i_neg1, i_neg2, i_neg3, i_neg4, i_neg5, i_neg6, i_neg7, i_neg8, i_neg9, i_nega, i_negb, i_negc, i_max2, i_min2])
          refine c_meets (by decide) ?_
          try simp (disch := omega) only [no0, no1, nz1, nz2, nz3, nz4, nz5, nz7, nz8, Classical.not_not, bz0, bz1, wi_nil, ld_0, ld_s, isIv_I, isLv_L, isRv_R, true_and, and_true, lset_0, lset_1, lset_s, avw_I, avw_L, avw_R, clr_cons, clr_nil, kst_0, kst_1, kstL_0, kstL_1, addk_I, pA_0, pA_s, pD_0, pD_s, wid_nil, wid_cons, rcv_c, putv_I, putv_L, List.length_cons, List.length_nil, List.set_cons_zero, List.set_cons_succ, not_false_eq_true, Nat.reduceMod, Nat.reduceDiv, Nat.reduceEqDiff, Nat.reduceLT, Nat.reduceLeDiff, Nat.reduceAdd, Nat.reduceSub, reduceIte, Nat.lt_irrefl, Nat.zero_ne_one, Nat.one_ne_zero, Nat.zero_add, List.nil_append, List.cons_append, Option.toList_some, Option.toList_none, forall_const, false_implies, true_implies, false_or, or_false, true_or, or_true, i_le, i_lt, i_eq, i_eq0, i_lt0, i_0le, i_0lt, i_le0, i_in1, i_cl, nI_add, pk_mul, pk_sub, i_div, i_rem, i_sh1, i_bit, i_or, i_and, i_andn, nt_le, nf_le, nt_lt, nf_lt, nt_eq, nf_eq, not_true_eq_false, and_self, and_false, false_and, eq_self, Bool.toNat_true, Bool.toNat_false, i_bool, i_bool1, Bool.false_eq_true, Bool.true_eq_false, reduceCtorEq, i_neg1, i_neg2, i_neg3, i_neg4, i_neg5, i_neg6, i_neg7, i_neg8, i_neg9, i_nega, i_negb, i_negc, i_max2, i_min2, wi_nil]
          repeat (
            first
            | refine s_X9_mark_0 ?_
            | refine s_X9_mark_5 ?_
            | refine s_X9_mark_14 ?_
            | refine s_X9_mark_17 ?_
            | refine s_X9_mark_19 ?_
            | refine s_X9_mark_41 ?_
            | refine s_X9_mark_51 ?_
            | refine s_X9_mark_56 ?_
            | refine s_X9_mark_57 ?_
            | refine s_X9_mark_66 ?_
            | refine s_X9_mark_100 ?_
            | refine s_X9_mark_113 ?_
            | refine s_X9_mark_121 ?_
            | refine s_X9_mark_123 ?_
            | refine s_X9_mark_129 ?_
            | refine s_X9_mark_140 ?_
            | refine s_X9_mark_146 ?_
            | refine s_X9_mark_147 ?_
            | refine s_X9_mark_148 ?_
            | refine s_X9_mark_154 ?_
            | refine s_X9_mark_158 ?_
            | refine s_X9_mark_174 ?_
            | refine s_X9_mark_175 ?_
            simp (disch := omega) only [B_X9_mark_0, wi_aload_n, wi_iload_n, wi_invokevirtual, cnt_8, B_X9_mark_5, wi_if_eq, wi_iconst, wi_invokestatic, B_X9_mark_14, wi_if_ne, B_X9_mark_17, wi_ireturn, B_X9_mark_19, wi_getfield, fldv_8_11, fds_8_11, wi_iaload, wi_istore_n, wi_icmp_eq, wi_icmp_ne, cnt_36, aTy_36, aLn_36, arr_36, cnt_40, aTy_40, aLn_40, arr_40, B_X9_mark_41, B_X9_mark_51, B_X9_mark_56, B_X9_mark_57, fldv_8_20, fds_8_20, B_X9_mark_66, wi_istore, wi_tsw, B_X9_mark_100, wi_irem, wi_isub, B_X9_mark_113, wi_iload, B_X9_mark_121, B_X9_mark_123, B_X9_mark_129, wi_icmp_le, B_X9_mark_140, wi_goto, B_X9_mark_146, B_X9_mark_147, B_X9_mark_148, B_X9_mark_154, B_X9_mark_158, wi_bipush, wi_iadd, B_X9_mark_174, B_X9_mark_175, no0, no1, nz1, nz2, nz3, nz4, nz5, nz7, nz8, Classical.not_not, bz0, bz1, wi_nil, ld_0, ld_s, isIv_I, isLv_L, isRv_R, true_and, and_true, lset_0, lset_1, lset_s, avw_I, avw_L, avw_R, clr_cons, clr_nil, kst_0, kst_1, kstL_0, kstL_1, addk_I, pA_0, pA_s, pD_0, pD_s, wid_nil, wid_cons, rcv_c, putv_I, putv_L, List.length_cons, List.length_nil, List.set_cons_zero, List.set_cons_succ, not_false_eq_true, Nat.reduceMod, Nat.reduceDiv, Nat.reduceEqDiff, Nat.reduceLT, Nat.reduceLeDiff, Nat.reduceAdd, Nat.reduceSub, reduceIte, Nat.lt_irrefl, Nat.zero_ne_one, Nat.one_ne_zero, Nat.zero_add, List.nil_append, List.cons_append, Option.toList_some, Option.toList_none, forall_const, false_implies, true_implies, false_or, or_false, true_or, or_true, i_le, i_lt, i_eq, i_eq0, i_lt0, i_0le, i_0lt, i_le0, i_in1, i_cl, nI_add, pk_mul, pk_sub, i_div, i_rem, i_sh1, i_bit, i_or, i_and, i_andn, nt_le, nf_le, nt_lt, nf_lt, nt_eq, nf_eq, not_true_eq_false, and_self, and_false, false_and, eq_self, Bool.toNat_true, Bool.toNat_false, i_bool, i_bool1, Bool.false_eq_true, Bool.true_eq_false, reduceCtorEq, i_neg1, i_neg2, i_neg3, i_neg4, i_neg5, i_neg6, i_neg7, i_neg8, i_neg9, i_nega, i_negb, i_negc, i_max2, i_min2])
          exact pm (r_ref h (by decide) Fr.refl)
        · try simp (disch := omega) only [no0, no1, nz1, nz2, nz3, nz4, nz5, nz7, nz8, Classical.not_not, bz0, bz1, wi_nil, ld_0, ld_s, isIv_I, isLv_L, isRv_R, true_and, and_true, lset_0, lset_1, lset_s, avw_I, avw_L, avw_R, clr_cons, clr_nil, kst_0, kst_1, kstL_0, kstL_1, addk_I, pA_0, pA_s, pD_0, pD_s, wid_nil, wid_cons, rcv_c, putv_I, putv_L, List.length_cons, List.length_nil, List.set_cons_zero, List.set_cons_succ, not_false_eq_true, Nat.reduceMod, Nat.reduceDiv, Nat.reduceEqDiff, Nat.reduceLT, Nat.reduceLeDiff, Nat.reduceAdd, Nat.reduceSub, reduceIte, Nat.lt_irrefl, Nat.zero_ne_one, Nat.one_ne_zero, Nat.zero_add, List.nil_append, List.cons_append, Option.toList_some, Option.toList_none, forall_const, false_implies, true_implies, false_or, or_false, true_or, or_true, i_le, i_lt, i_eq, i_eq0, i_lt0, i_0le, i_0lt, i_le0, i_in1, i_cl, nI_add, pk_mul, pk_sub, i_div, i_rem, i_sh1, i_bit, i_or, i_and, i_andn, nt_le, nf_le, nt_lt, nf_lt, nt_eq, nf_eq, not_true_eq_false, and_self, and_false, false_and, eq_self, Bool.toNat_true, Bool.toNat_false, i_bool, i_bool1, Bool.false_eq_true, Bool.true_eq_false, reduceCtorEq, i_neg1, i_neg2, i_neg3, i_neg4, i_neg5, i_neg6, i_neg7, i_neg8, i_neg9, i_nega, i_negb, i_negc, i_max2, i_min2, wi_nil]
          repeat (
            first
            | refine s_X9_mark_0 ?_
            | refine s_X9_mark_5 ?_
            | refine s_X9_mark_14 ?_
            | refine s_X9_mark_17 ?_
            | refine s_X9_mark_19 ?_
            | refine s_X9_mark_41 ?_
            | refine s_X9_mark_51 ?_
            | refine s_X9_mark_56 ?_
            | refine s_X9_mark_57 ?_
            | refine s_X9_mark_66 ?_
            | refine s_X9_mark_100 ?_
            | refine s_X9_mark_113 ?_
            | refine s_X9_mark_121 ?_
            | refine s_X9_mark_123 ?_
            | refine s_X9_mark_129 ?_
            | refine s_X9_mark_140 ?_
            | refine s_X9_mark_146 ?_
            | refine s_X9_mark_147 ?_
            | refine s_X9_mark_148 ?_
            | refine s_X9_mark_154 ?_
            | refine s_X9_mark_158 ?_
            | refine s_X9_mark_174 ?_
            | refine s_X9_mark_175 ?_
            simp (disch := omega) only [B_X9_mark_0, wi_aload_n, wi_iload_n, wi_invokevirtual, cnt_8, B_X9_mark_5, wi_if_eq, wi_iconst, wi_invokestatic, B_X9_mark_14, wi_if_ne, B_X9_mark_17, wi_ireturn, B_X9_mark_19, wi_getfield, fldv_8_11, fds_8_11, wi_iaload, wi_istore_n, wi_icmp_eq, wi_icmp_ne, cnt_36, aTy_36, aLn_36, arr_36, cnt_40, aTy_40, aLn_40, arr_40, B_X9_mark_41, B_X9_mark_51, B_X9_mark_56, B_X9_mark_57, fldv_8_20, fds_8_20, B_X9_mark_66, wi_istore, wi_tsw, B_X9_mark_100, wi_irem, wi_isub, B_X9_mark_113, wi_iload, B_X9_mark_121, B_X9_mark_123, B_X9_mark_129, wi_icmp_le, B_X9_mark_140, wi_goto, B_X9_mark_146, B_X9_mark_147, B_X9_mark_148, B_X9_mark_154, B_X9_mark_158, wi_bipush, wi_iadd, B_X9_mark_174, B_X9_mark_175, no0, no1, nz1, nz2, nz3, nz4, nz5, nz7, nz8, Classical.not_not, bz0, bz1, wi_nil, ld_0, ld_s, isIv_I, isLv_L, isRv_R, true_and, and_true, lset_0, lset_1, lset_s, avw_I, avw_L, avw_R, clr_cons, clr_nil, kst_0, kst_1, kstL_0, kstL_1, addk_I, pA_0, pA_s, pD_0, pD_s, wid_nil, wid_cons, rcv_c, putv_I, putv_L, List.length_cons, List.length_nil, List.set_cons_zero, List.set_cons_succ, not_false_eq_true, Nat.reduceMod, Nat.reduceDiv, Nat.reduceEqDiff, Nat.reduceLT, Nat.reduceLeDiff, Nat.reduceAdd, Nat.reduceSub, reduceIte, Nat.lt_irrefl, Nat.zero_ne_one, Nat.one_ne_zero, Nat.zero_add, List.nil_append, List.cons_append, Option.toList_some, Option.toList_none, forall_const, false_implies, true_implies, false_or, or_false, true_or, or_true, i_le, i_lt, i_eq, i_eq0, i_lt0, i_0le, i_0lt, i_le0, i_in1, i_cl, nI_add, pk_mul, pk_sub, i_div, i_rem, i_sh1, i_bit, i_or, i_and, i_andn, nt_le, nf_le, nt_lt, nf_lt, nt_eq, nf_eq, not_true_eq_false, and_self, and_false, false_and, eq_self, Bool.toNat_true, Bool.toNat_false, i_bool, i_bool1, Bool.false_eq_true, Bool.true_eq_false, reduceCtorEq, i_neg1, i_neg2, i_neg3, i_neg4, i_neg5, i_neg6, i_neg7, i_neg8, i_neg9, i_nega, i_negb, i_negc, i_max2, i_min2])
          refine c_meets (by decide) ?_
          try simp (disch := omega) only [no0, no1, nz1, nz2, nz3, nz4, nz5, nz7, nz8, Classical.not_not, bz0, bz1, wi_nil, ld_0, ld_s, isIv_I, isLv_L, isRv_R, true_and, and_true, lset_0, lset_1, lset_s, avw_I, avw_L, avw_R, clr_cons, clr_nil, kst_0, kst_1, kstL_0, kstL_1, addk_I, pA_0, pA_s, pD_0, pD_s, wid_nil, wid_cons, rcv_c, putv_I, putv_L, List.length_cons, List.length_nil, List.set_cons_zero, List.set_cons_succ, not_false_eq_true, Nat.reduceMod, Nat.reduceDiv, Nat.reduceEqDiff, Nat.reduceLT, Nat.reduceLeDiff, Nat.reduceAdd, Nat.reduceSub, reduceIte, Nat.lt_irrefl, Nat.zero_ne_one, Nat.one_ne_zero, Nat.zero_add, List.nil_append, List.cons_append, Option.toList_some, Option.toList_none, forall_const, false_implies, true_implies, false_or, or_false, true_or, or_true, i_le, i_lt, i_eq, i_eq0, i_lt0, i_0le, i_0lt, i_le0, i_in1, i_cl, nI_add, pk_mul, pk_sub, i_div, i_rem, i_sh1, i_bit, i_or, i_and, i_andn, nt_le, nf_le, nt_lt, nf_lt, nt_eq, nf_eq, not_true_eq_false, and_self, and_false, false_and, eq_self, Bool.toNat_true, Bool.toNat_false, i_bool, i_bool1, Bool.false_eq_true, Bool.true_eq_false, reduceCtorEq, i_neg1, i_neg2, i_neg3, i_neg4, i_neg5, i_neg6, i_neg7, i_neg8, i_neg9, i_nega, i_negb, i_negc, i_max2, i_min2, wi_nil]
          repeat (
            first
            | refine s_X9_mark_0 ?_
            | refine s_X9_mark_5 ?_
            | refine s_X9_mark_14 ?_
            | refine s_X9_mark_17 ?_
            | refine s_X9_mark_19 ?_
            | refine s_X9_mark_41 ?_
            | refine s_X9_mark_51 ?_
            | refine s_X9_mark_56 ?_
            | refine s_X9_mark_57 ?_
            | refine s_X9_mark_66 ?_
            | refine s_X9_mark_100 ?_
            | refine s_X9_mark_113 ?_
            | refine s_X9_mark_121 ?_
            | refine s_X9_mark_123 ?_
            | refine s_X9_mark_129 ?_
            | refine s_X9_mark_140 ?_
            | refine s_X9_mark_146 ?_
            | refine s_X9_mark_147 ?_
            | refine s_X9_mark_148 ?_
            | refine s_X9_mark_154 ?_
            | refine s_X9_mark_158 ?_
            | refine s_X9_mark_174 ?_
            | refine s_X9_mark_175 ?_
            simp (disch := omega) only [B_X9_mark_0, wi_aload_n, wi_iload_n, wi_invokevirtual, cnt_8, B_X9_mark_5, wi_if_eq, wi_iconst, wi_invokestatic, B_X9_mark_14, wi_if_ne, B_X9_mark_17, wi_ireturn, B_X9_mark_19, wi_getfield, fldv_8_11, fds_8_11, wi_iaload, wi_istore_n, wi_icmp_eq, wi_icmp_ne, cnt_36, aTy_36, aLn_36, arr_36, cnt_40, aTy_40, aLn_40, arr_40, B_X9_mark_41, B_X9_mark_51, B_X9_mark_56, B_X9_mark_57, fldv_8_20, fds_8_20, B_X9_mark_66, wi_istore, wi_tsw, B_X9_mark_100, wi_irem, wi_isub, B_X9_mark_113, wi_iload, B_X9_mark_121, B_X9_mark_123, B_X9_mark_129, wi_icmp_le, B_X9_mark_140, wi_goto, B_X9_mark_146, B_X9_mark_147, B_X9_mark_148, B_X9_mark_154, B_X9_mark_158, wi_bipush, wi_iadd, B_X9_mark_174, B_X9_mark_175, no0, no1, nz1, nz2, nz3, nz4, nz5, nz7, nz8, Classical.not_not, bz0, bz1, wi_nil, ld_0, ld_s, isIv_I, isLv_L, isRv_R, true_and, and_true, lset_0, lset_1, lset_s, avw_I, avw_L, avw_R, clr_cons, clr_nil, kst_0, kst_1, kstL_0, kstL_1, addk_I, pA_0, pA_s, pD_0, pD_s, wid_nil, wid_cons, rcv_c, putv_I, putv_L, List.length_cons, List.length_nil, List.set_cons_zero, List.set_cons_succ, not_false_eq_true, Nat.reduceMod, Nat.reduceDiv, Nat.reduceEqDiff, Nat.reduceLT, Nat.reduceLeDiff, Nat.reduceAdd, Nat.reduceSub, reduceIte, Nat.lt_irrefl, Nat.zero_ne_one, Nat.one_ne_zero, Nat.zero_add, List.nil_append, List.cons_append, Option.toList_some, Option.toList_none, forall_const, false_implies, true_implies, false_or, or_false, true_or, or_true, i_le, i_lt, i_eq, i_eq0, i_lt0, i_0le, i_0lt, i_le0, i_in1, i_cl, nI_add, pk_mul, pk_sub, i_div, i_rem, i_sh1, i_bit, i_or, i_and, i_andn, nt_le, nf_le, nt_lt, nf_lt, nt_eq, nf_eq, not_true_eq_false, and_self, and_false, false_and, eq_self, Bool.toNat_true, Bool.toNat_false, i_bool, i_bool1, Bool.false_eq_true, Bool.true_eq_false, reduceCtorEq, i_neg1, i_neg2, i_neg3, i_neg4, i_neg5, i_neg6, i_neg7, i_neg8, i_neg9, i_nega, i_negb, i_negc, i_max2, i_min2])
          exact pm (r_ref h (by decide) Fr.refl)
        · try simp (disch := omega) only [no0, no1, nz1, nz2, nz3, nz4, nz5, nz7, nz8, Classical.not_not, bz0, bz1, wi_nil, ld_0, ld_s, isIv_I, isLv_L, isRv_R, true_and, and_true, lset_0, lset_1, lset_s, avw_I, avw_L, avw_R, clr_cons, clr_nil, kst_0, kst_1, kstL_0, kstL_1, addk_I, pA_0, pA_s, pD_0, pD_s, wid_nil, wid_cons, rcv_c, putv_I, putv_L, List.length_cons, List.length_nil, List.set_cons_zero, List.set_cons_succ, not_false_eq_true, Nat.reduceMod, Nat.reduceDiv, Nat.reduceEqDiff, Nat.reduceLT, Nat.reduceLeDiff, Nat.reduceAdd, Nat.reduceSub, reduceIte, Nat.lt_irrefl, Nat.zero_ne_one, Nat.one_ne_zero, Nat.zero_add, List.nil_append, List.cons_append, Option.toList_some, Option.toList_none, forall_const, false_implies, true_implies, false_or, or_false, true_or, or_true, i_le, i_lt, i_eq, i_eq0, i_lt0, i_0le, i_0lt, i_le0, i_in1, i_cl, nI_add, pk_mul, pk_sub, i_div, i_rem, i_sh1, i_bit, i_or, i_and, i_andn, nt_le, nf_le, nt_lt, nf_lt, nt_eq, nf_eq, not_true_eq_false, and_self, and_false, false_and, eq_self, Bool.toNat_true, Bool.toNat_false, i_bool, i_bool1, Bool.false_eq_true, Bool.true_eq_false, reduceCtorEq, i_neg1, i_neg2, i_neg3, i_neg4, i_neg5, i_neg6, i_neg7, i_neg8, i_neg9, i_nega, i_negb, i_negc, i_max2, i_min2, wi_nil]
          repeat (
            first
            | refine s_X9_mark_0 ?_
            | refine s_X9_mark_5 ?_
            | refine s_X9_mark_14 ?_
            | refine s_X9_mark_17 ?_
            | refine s_X9_mark_19 ?_
            | refine s_X9_mark_41 ?_
            | refine s_X9_mark_51 ?_
            | refine s_X9_mark_56 ?_
            | refine s_X9_mark_57 ?_
            | refine s_X9_mark_66 ?_
            | refine s_X9_mark_100 ?_
            | refine s_X9_mark_113 ?_
            | refine s_X9_mark_121 ?_
            | refine s_X9_mark_123 ?_
            | refine s_X9_mark_129 ?_
            | refine s_X9_mark_140 ?_
            | refine s_X9_mark_146 ?_
            | refine s_X9_mark_147 ?_
            | refine s_X9_mark_148 ?_
            | refine s_X9_mark_154 ?_
            | refine s_X9_mark_158 ?_
            | refine s_X9_mark_174 ?_
            | refine s_X9_mark_175 ?_
            simp (disch := omega) only [B_X9_mark_0, wi_aload_n, wi_iload_n, wi_invokevirtual, cnt_8, B_X9_mark_5, wi_if_eq, wi_iconst, wi_invokestatic, B_X9_mark_14, wi_if_ne, B_X9_mark_17, wi_ireturn, B_X9_mark_19, wi_getfield, fldv_8_11, fds_8_11, wi_iaload, wi_istore_n, wi_icmp_eq, wi_icmp_ne, cnt_36, aTy_36, aLn_36, arr_36, cnt_40, aTy_40, aLn_40, arr_40, B_X9_mark_41, B_X9_mark_51, B_X9_mark_56, B_X9_mark_57, fldv_8_20, fds_8_20, B_X9_mark_66, wi_istore, wi_tsw, B_X9_mark_100, wi_irem, wi_isub, B_X9_mark_113, wi_iload, B_X9_mark_121, B_X9_mark_123, B_X9_mark_129, wi_icmp_le, B_X9_mark_140, wi_goto, B_X9_mark_146, B_X9_mark_147, B_X9_mark_148, B_X9_mark_154, B_X9_mark_158, wi_bipush, wi_iadd, B_X9_mark_174, B_X9_mark_175, no0, no1, nz1, nz2, nz3, nz4, nz5, nz7, nz8, Classical.not_not, bz0, bz1, wi_nil, ld_0, ld_s, isIv_I, isLv_L, isRv_R, true_and, and_true, lset_0, lset_1, lset_s, avw_I, avw_L, avw_R, clr_cons, clr_nil, kst_0, kst_1, kstL_0, kstL_1, addk_I, pA_0, pA_s, pD_0, pD_s, wid_nil, wid_cons, rcv_c, putv_I, putv_L, List.length_cons, List.length_nil, List.set_cons_zero, List.set_cons_succ, not_false_eq_true, Nat.reduceMod, Nat.reduceDiv, Nat.reduceEqDiff, Nat.reduceLT, Nat.reduceLeDiff, Nat.reduceAdd, Nat.reduceSub, reduceIte, Nat.lt_irrefl, Nat.zero_ne_one, Nat.one_ne_zero, Nat.zero_add, List.nil_append, List.cons_append, Option.toList_some, Option.toList_none, forall_const, false_implies, true_implies, false_or, or_false, true_or, or_true, i_le, i_lt, i_eq, i_eq0, i_lt0, i_0le, i_0lt, i_le0, i_in1, i_cl, nI_add, pk_mul, pk_sub, i_div, i_rem, i_sh1, i_bit, i_or, i_and, i_andn, nt_le, nf_le, nt_lt, nf_lt, nt_eq, nf_eq, not_true_eq_false, and_self, and_false, false_and, eq_self, Bool.toNat_true, Bool.toNat_false, i_bool, i_bool1, Bool.false_eq_true, Bool.true_eq_false, reduceCtorEq, i_neg1, i_neg2, i_neg3, i_neg4, i_neg5, i_neg6, i_neg7, i_neg8, i_neg9, i_nega, i_negb, i_negc, i_max2, i_min2])
          refine c_meets (by decide) ?_
          try simp (disch := omega) only [no0, no1, nz1, nz2, nz3, nz4, nz5, nz7, nz8, Classical.not_not, bz0, bz1, wi_nil, ld_0, ld_s, isIv_I, isLv_L, isRv_R, true_and, and_true, lset_0, lset_1, lset_s, avw_I, avw_L, avw_R, clr_cons, clr_nil, kst_0, kst_1, kstL_0, kstL_1, addk_I, pA_0, pA_s, pD_0, pD_s, wid_nil, wid_cons, rcv_c, putv_I, putv_L, List.length_cons, List.length_nil, List.set_cons_zero, List.set_cons_succ, not_false_eq_true, Nat.reduceMod, Nat.reduceDiv, Nat.reduceEqDiff, Nat.reduceLT, Nat.reduceLeDiff, Nat.reduceAdd, Nat.reduceSub, reduceIte, Nat.lt_irrefl, Nat.zero_ne_one, Nat.one_ne_zero, Nat.zero_add, List.nil_append, List.cons_append, Option.toList_some, Option.toList_none, forall_const, false_implies, true_implies, false_or, or_false, true_or, or_true, i_le, i_lt, i_eq, i_eq0, i_lt0, i_0le, i_0lt, i_le0, i_in1, i_cl, nI_add, pk_mul, pk_sub, i_div, i_rem, i_sh1, i_bit, i_or, i_and, i_andn, nt_le, nf_le, nt_lt, nf_lt, nt_eq, nf_eq, not_true_eq_false, and_self, and_false, false_and, eq_self, Bool.toNat_true, Bool.toNat_false, i_bool, i_bool1, Bool.false_eq_true, Bool.true_eq_false, reduceCtorEq, i_neg1, i_neg2, i_neg3, i_neg4, i_neg5, i_neg6, i_neg7, i_neg8, i_neg9, i_nega, i_negb, i_negc, i_max2, i_min2, wi_nil]
          repeat (
            first
            | refine s_X9_mark_0 ?_
            | refine s_X9_mark_5 ?_
            | refine s_X9_mark_14 ?_
            | refine s_X9_mark_17 ?_
            | refine s_X9_mark_19 ?_
            | refine s_X9_mark_41 ?_
            | refine s_X9_mark_51 ?_
            | refine s_X9_mark_56 ?_
            | refine s_X9_mark_57 ?_
            | refine s_X9_mark_66 ?_
            | refine s_X9_mark_100 ?_
            | refine s_X9_mark_113 ?_
            | refine s_X9_mark_121 ?_
            | refine s_X9_mark_123 ?_
            | refine s_X9_mark_129 ?_
            | refine s_X9_mark_140 ?_
            | refine s_X9_mark_146 ?_
            | refine s_X9_mark_147 ?_
            | refine s_X9_mark_148 ?_
            | refine s_X9_mark_154 ?_
            | refine s_X9_mark_158 ?_
            | refine s_X9_mark_174 ?_
            | refine s_X9_mark_175 ?_
            simp (disch := omega) only [B_X9_mark_0, wi_aload_n, wi_iload_n, wi_invokevirtual, cnt_8, B_X9_mark_5, wi_if_eq, wi_iconst, wi_invokestatic, B_X9_mark_14, wi_if_ne, B_X9_mark_17, wi_ireturn, B_X9_mark_19, wi_getfield, fldv_8_11, fds_8_11, wi_iaload, wi_istore_n, wi_icmp_eq, wi_icmp_ne, cnt_36, aTy_36, aLn_36, arr_36, cnt_40, aTy_40, aLn_40, arr_40, B_X9_mark_41, B_X9_mark_51, B_X9_mark_56, B_X9_mark_57, fldv_8_20, fds_8_20, B_X9_mark_66, wi_istore, wi_tsw, B_X9_mark_100, wi_irem, wi_isub, B_X9_mark_113, wi_iload, B_X9_mark_121, B_X9_mark_123, B_X9_mark_129, wi_icmp_le, B_X9_mark_140, wi_goto, B_X9_mark_146, B_X9_mark_147, B_X9_mark_148, B_X9_mark_154, B_X9_mark_158, wi_bipush, wi_iadd, B_X9_mark_174, B_X9_mark_175, no0, no1, nz1, nz2, nz3, nz4, nz5, nz7, nz8, Classical.not_not, bz0, bz1, wi_nil, ld_0, ld_s, isIv_I, isLv_L, isRv_R, true_and, and_true, lset_0, lset_1, lset_s, avw_I, avw_L, avw_R, clr_cons, clr_nil, kst_0, kst_1, kstL_0, kstL_1, addk_I, pA_0, pA_s, pD_0, pD_s, wid_nil, wid_cons, rcv_c, putv_I, putv_L, List.length_cons, List.length_nil, List.set_cons_zero, List.set_cons_succ, not_false_eq_true, Nat.reduceMod, Nat.reduceDiv, Nat.reduceEqDiff, Nat.reduceLT, Nat.reduceLeDiff, Nat.reduceAdd, Nat.reduceSub, reduceIte, Nat.lt_irrefl, Nat.zero_ne_one, Nat.one_ne_zero, Nat.zero_add, List.nil_append, List.cons_append, Option.toList_some, Option.toList_none, forall_const, false_implies, true_implies, false_or, or_false, true_or, or_true, i_le, i_lt, i_eq, i_eq0, i_lt0, i_0le, i_0lt, i_le0, i_in1, i_cl, nI_add, pk_mul, pk_sub, i_div, i_rem, i_sh1, i_bit, i_or, i_and, i_andn, nt_le, nf_le, nt_lt, nf_lt, nt_eq, nf_eq, not_true_eq_false, and_self, and_false, false_and, eq_self, Bool.toNat_true, Bool.toNat_false, i_bool, i_bool1, Bool.false_eq_true, Bool.true_eq_false, reduceCtorEq, i_neg1, i_neg2, i_neg3, i_neg4, i_neg5, i_neg6, i_neg7, i_neg8, i_neg9, i_nega, i_negb, i_negc, i_max2, i_min2])
          exact pm (r_ref h (by decide) Fr.refl)
        · try simp (disch := omega) only [no0, no1, nz1, nz2, nz3, nz4, nz5, nz7, nz8, Classical.not_not, bz0, bz1, wi_nil, ld_0, ld_s, isIv_I, isLv_L, isRv_R, true_and, and_true, lset_0, lset_1, lset_s, avw_I, avw_L, avw_R, clr_cons, clr_nil, kst_0, kst_1, kstL_0, kstL_1, addk_I, pA_0, pA_s, pD_0, pD_s, wid_nil, wid_cons, rcv_c, putv_I, putv_L, List.length_cons, List.length_nil, List.set_cons_zero, List.set_cons_succ, not_false_eq_true, Nat.reduceMod, Nat.reduceDiv, Nat.reduceEqDiff, Nat.reduceLT, Nat.reduceLeDiff, Nat.reduceAdd, Nat.reduceSub, reduceIte, Nat.lt_irrefl, Nat.zero_ne_one, Nat.one_ne_zero, Nat.zero_add, List.nil_append, List.cons_append, Option.toList_some, Option.toList_none, forall_const, false_implies, true_implies, false_or, or_false, true_or, or_true, i_le, i_lt, i_eq, i_eq0, i_lt0, i_0le, i_0lt, i_le0, i_in1, i_cl, nI_add, pk_mul, pk_sub, i_div, i_rem, i_sh1, i_bit, i_or, i_and, i_andn, nt_le, nf_le, nt_lt, nf_lt, nt_eq, nf_eq, not_true_eq_false, and_self, and_false, false_and, eq_self, Bool.toNat_true, Bool.toNat_false, i_bool, i_bool1, Bool.false_eq_true, Bool.true_eq_false, reduceCtorEq, i_neg1, i_neg2, i_neg3, i_neg4, i_neg5, i_neg6, i_neg7, i_neg8, i_neg9, i_nega, i_negb, i_negc, i_max2, i_min2, wi_nil]
          repeat (
            first
            | refine s_X9_mark_0 ?_
            | refine s_X9_mark_5 ?_
            | refine s_X9_mark_14 ?_
            | refine s_X9_mark_17 ?_
            | refine s_X9_mark_19 ?_
            | refine s_X9_mark_41 ?_
            | refine s_X9_mark_51 ?_
            | refine s_X9_mark_56 ?_
            | refine s_X9_mark_57 ?_
            | refine s_X9_mark_66 ?_
            | refine s_X9_mark_100 ?_
            | refine s_X9_mark_113 ?_
            | refine s_X9_mark_121 ?_
            | refine s_X9_mark_123 ?_
            | refine s_X9_mark_129 ?_
            | refine s_X9_mark_140 ?_
            | refine s_X9_mark_146 ?_
            | refine s_X9_mark_147 ?_
            | refine s_X9_mark_148 ?_
            | refine s_X9_mark_154 ?_
            | refine s_X9_mark_158 ?_
            | refine s_X9_mark_174 ?_
            | refine s_X9_mark_175 ?_
            simp (disch := omega) only [B_X9_mark_0, wi_aload_n, wi_iload_n, wi_invokevirtual, cnt_8, B_X9_mark_5, wi_if_eq, wi_iconst, wi_invokestatic, B_X9_mark_14, wi_if_ne, B_X9_mark_17, wi_ireturn, B_X9_mark_19, wi_getfield, fldv_8_11, fds_8_11, wi_iaload, wi_istore_n, wi_icmp_eq, wi_icmp_ne, cnt_36, aTy_36, aLn_36, arr_36, cnt_40, aTy_40, aLn_40, arr_40, B_X9_mark_41, B_X9_mark_51, B_X9_mark_56, B_X9_mark_57, fldv_8_20, fds_8_20, B_X9_mark_66, wi_istore, wi_tsw, B_X9_mark_100, wi_irem, wi_isub, B_X9_mark_113, wi_iload, B_X9_mark_121, B_X9_mark_123, B_X9_mark_129, wi_icmp_le, B_X9_mark_140, wi_goto, B_X9_mark_146, B_X9_mark_147, B_X9_mark_148, B_X9_mark_154, B_X9_mark_158, wi_bipush, wi_iadd, B_X9_mark_174, B_X9_mark_175, no0, no1, nz1, nz2, nz3, nz4, nz5, nz7, nz8, Classical.not_not, bz0, bz1, wi_nil, ld_0, ld_s, isIv_I, isLv_L, isRv_R, true_and, and_true, lset_0, lset_1, lset_s, avw_I, avw_L, avw_R, clr_cons, clr_nil, kst_0, kst_1, kstL_0, kstL_1, addk_I, pA_0, pA_s, pD_0, pD_s, wid_nil, wid_cons, rcv_c, putv_I, putv_L, List.length_cons, List.length_nil, List.set_cons_zero, List.set_cons_succ, not_false_eq_true, Nat.reduceMod, Nat.reduceDiv, Nat.reduceEqDiff, Nat.reduceLT, Nat.reduceLeDiff, Nat.reduceAdd, Nat.reduceSub, reduceIte, Nat.lt_irrefl, Nat.zero_ne_one, Nat.one_ne_zero, Nat.zero_add, List.nil_append, List.cons_append, Option.toList_some, Option.toList_none, forall_const, false_implies, true_implies, false_or, or_false, true_or, or_true, i_le, i_lt, i_eq, i_eq0, i_lt0, i_0le, i_0lt, i_le0, i_in1, i_cl, nI_add, pk_mul, pk_sub, i_div, i_rem, i_sh1, i_bit, i_or, i_and, i_andn, nt_le, nf_le, nt_lt, nf_lt, nt_eq, nf_eq, not_true_eq_false, and_self, and_false, false_and, eq_self, Bool.toNat_true, Bool.toNat_false, i_bool, i_bool1, Bool.false_eq_true, Bool.true_eq_false, reduceCtorEq, i_neg1, i_neg2, i_neg3, i_neg4, i_neg5, i_neg6, i_neg7, i_neg8, i_neg9, i_nega, i_negb, i_negc, i_max2, i_min2])
          refine c_meets (by decide) ?_
          try simp (disch := omega) only [no0, no1, nz1, nz2, nz3, nz4, nz5, nz7, nz8, Classical.not_not, bz0, bz1, wi_nil, ld_0, ld_s, isIv_I, isLv_L, isRv_R, true_and, and_true, lset_0, lset_1, lset_s, avw_I, avw_L, avw_R, clr_cons, clr_nil, kst_0, kst_1, kstL_0, kstL_1, addk_I, pA_0, pA_s, pD_0, pD_s, wid_nil, wid_cons, rcv_c, putv_I, putv_L, List.length_cons, List.length_nil, List.set_cons_zero, List.set_cons_succ, not_false_eq_true, Nat.reduceMod, Nat.reduceDiv, Nat.reduceEqDiff, Nat.reduceLT, Nat.reduceLeDiff, Nat.reduceAdd, Nat.reduceSub, reduceIte, Nat.lt_irrefl, Nat.zero_ne_one, Nat.one_ne_zero, Nat.zero_add, List.nil_append, List.cons_append, Option.toList_some, Option.toList_none, forall_const, false_implies, true_implies, false_or, or_false, true_or, or_true, i_le, i_lt, i_eq, i_eq0, i_lt0, i_0le, i_0lt, i_le0, i_in1, i_cl, nI_add, pk_mul, pk_sub, i_div, i_rem, i_sh1, i_bit, i_or, i_and, i_andn, nt_le, nf_le, nt_lt, nf_lt, nt_eq, nf_eq, not_true_eq_false, and_self, and_false, false_and, eq_self, Bool.toNat_true, Bool.toNat_false, i_bool, i_bool1, Bool.false_eq_true, Bool.true_eq_false, reduceCtorEq, i_neg1, i_neg2, i_neg3, i_neg4, i_neg5, i_neg6, i_neg7, i_neg8, i_neg9, i_nega, i_negb, i_negc, i_max2, i_min2, wi_nil]
          repeat (
            first
            | refine s_X9_mark_0 ?_
            | refine s_X9_mark_5 ?_
            | refine s_X9_mark_14 ?_
            | refine s_X9_mark_17 ?_
            | refine s_X9_mark_19 ?_
            | refine s_X9_mark_41 ?_
            | refine s_X9_mark_51 ?_
            | refine s_X9_mark_56 ?_
            | refine s_X9_mark_57 ?_
            | refine s_X9_mark_66 ?_
            | refine s_X9_mark_100 ?_
            | refine s_X9_mark_113 ?_
            | refine s_X9_mark_121 ?_
            | refine s_X9_mark_123 ?_
            | refine s_X9_mark_129 ?_
            | refine s_X9_mark_140 ?_
            | refine s_X9_mark_146 ?_
            | refine s_X9_mark_147 ?_
            | refine s_X9_mark_148 ?_
            | refine s_X9_mark_154 ?_
            | refine s_X9_mark_158 ?_
            | refine s_X9_mark_174 ?_
            | refine s_X9_mark_175 ?_
            simp (disch := omega) only [B_X9_mark_0, wi_aload_n, wi_iload_n, wi_invokevirtual, cnt_8, B_X9_mark_5, wi_if_eq, wi_iconst, wi_invokestatic, B_X9_mark_14, wi_if_ne, B_X9_mark_17, wi_ireturn, B_X9_mark_19, wi_getfield, fldv_8_11, fds_8_11, wi_iaload, wi_istore_n, wi_icmp_eq, wi_icmp_ne, cnt_36, aTy_36, aLn_36, arr_36, cnt_40, aTy_40, aLn_40, arr_40, B_X9_mark_41, B_X9_mark_51, B_X9_mark_56, B_X9_mark_57, fldv_8_20, fds_8_20, B_X9_mark_66, wi_istore, wi_tsw, B_X9_mark_100, wi_irem, wi_isub, B_X9_mark_113, wi_iload, B_X9_mark_121, B_X9_mark_123, B_X9_mark_129, wi_icmp_le, B_X9_mark_140, wi_goto, B_X9_mark_146, B_X9_mark_147, B_X9_mark_148, B_X9_mark_154, B_X9_mark_158, wi_bipush, wi_iadd, B_X9_mark_174, B_X9_mark_175, no0, no1, nz1, nz2, nz3, nz4, nz5, nz7, nz8, Classical.not_not, bz0, bz1, wi_nil, ld_0, ld_s, isIv_I, isLv_L, isRv_R, true_and, and_true, lset_0, lset_1, lset_s, avw_I, avw_L, avw_R, clr_cons, clr_nil, kst_0, kst_1, kstL_0, kstL_1, addk_I, pA_0, pA_s, pD_0, pD_s, wid_nil, wid_cons, rcv_c, putv_I, putv_L, List.length_cons, List.length_nil, List.set_cons_zero, List.set_cons_succ, not_false_eq_true, Nat.reduceMod, Nat.reduceDiv, Nat.reduceEqDiff, Nat.reduceLT, Nat.reduceLeDiff, Nat.reduceAdd, Nat.reduceSub, reduceIte, Nat.lt_irrefl, Nat.zero_ne_one, Nat.one_ne_zero, Nat.zero_add, List.nil_append, List.cons_append, Option.toList_some, Option.toList_none, forall_const, false_implies, true_implies, false_or, or_false, true_or, or_true, i_le, i_lt, i_eq, i_eq0, i_lt0, i_0le, i_0lt, i_le0, i_in1, i_cl, nI_add, pk_mul, pk_sub, i_div, i_rem, i_sh1, i_bit, i_or, i_and, i_andn, nt_le, nf_le, nt_lt, nf_lt, nt_eq, nf_eq, not_true_eq_false, and_self, and_false, false_and, eq_self, Bool.toNat_true, Bool.toNat_false, i_bool, i_bool1, Bool.false_eq_true, Bool.true_eq_false, reduceCtorEq, i_neg1, i_neg2, i_neg3, i_neg4, i_neg5, i_neg6, i_neg7, i_neg8, i_neg9, i_nega, i_negb, i_negc, i_max2, i_min2])
          exact pm (r_ref h (by decide) Fr.refl)
        · try simp (disch := omega) only [no0, no1, nz1, nz2, nz3, nz4, nz5, nz7, nz8, Classical.not_not, bz0, bz1, wi_nil, ld_0, ld_s, isIv_I, isLv_L, isRv_R, true_and, and_true, lset_0, lset_1, lset_s, avw_I, avw_L, avw_R, clr_cons, clr_nil, kst_0, kst_1, kstL_0, kstL_1, addk_I, pA_0, pA_s, pD_0, pD_s, wid_nil, wid_cons, rcv_c, putv_I, putv_L, List.length_cons, List.length_nil, List.set_cons_zero, List.set_cons_succ, not_false_eq_true, Nat.reduceMod, Nat.reduceDiv, Nat.reduceEqDiff, Nat.reduceLT, Nat.reduceLeDiff, Nat.reduceAdd, Nat.reduceSub, reduceIte, Nat.lt_irrefl, Nat.zero_ne_one, Nat.one_ne_zero, Nat.zero_add, List.nil_append, List.cons_append, Option.toList_some, Option.toList_none, forall_const, false_implies, true_implies, false_or, or_false, true_or, or_true, i_le, i_lt, i_eq, i_eq0, i_lt0, i_0le, i_0lt, i_le0, i_in1, i_cl, nI_add, pk_mul, pk_sub, i_div, i_rem, i_sh1, i_bit, i_or, i_and, i_andn, nt_le, nf_le, nt_lt, nf_lt, nt_eq, nf_eq, not_true_eq_false, and_self, and_false, false_and, eq_self, Bool.toNat_true, Bool.toNat_false, i_bool, i_bool1, Bool.false_eq_true, Bool.true_eq_false, reduceCtorEq, i_neg1, i_neg2, i_neg3, i_neg4, i_neg5, i_neg6, i_neg7, i_neg8, i_neg9, i_nega, i_negb, i_negc, i_max2, i_min2, wi_nil]
          repeat (
            first
            | refine s_X9_mark_0 ?_
            | refine s_X9_mark_5 ?_
            | refine s_X9_mark_14 ?_
            | refine s_X9_mark_17 ?_
            | refine s_X9_mark_19 ?_
            | refine s_X9_mark_41 ?_
            | refine s_X9_mark_51 ?_
            | refine s_X9_mark_56 ?_
            | refine s_X9_mark_57 ?_
            | refine s_X9_mark_66 ?_
            | refine s_X9_mark_100 ?_
            | refine s_X9_mark_113 ?_
            | refine s_X9_mark_121 ?_
            | refine s_X9_mark_123 ?_
            | refine s_X9_mark_129 ?_
            | refine s_X9_mark_140 ?_
            | refine s_X9_mark_146 ?_
            | refine s_X9_mark_147 ?_
            | refine s_X9_mark_148 ?_
            | refine s_X9_mark_154 ?_
            | refine s_X9_mark_158 ?_
            | refine s_X9_mark_174 ?_
            | refine s_X9_mark_175 ?_
            simp (disch := omega) only [B_X9_mark_0, wi_aload_n, wi_iload_n, wi_invokevirtual, cnt_8, B_X9_mark_5, wi_if_eq, wi_iconst, wi_invokestatic, B_X9_mark_14, wi_if_ne, B_X9_mark_17, wi_ireturn, B_X9_mark_19, wi_getfield, fldv_8_11, fds_8_11, wi_iaload, wi_istore_n, wi_icmp_eq, wi_icmp_ne, cnt_36, aTy_36, aLn_36, arr_36, cnt_40, aTy_40, aLn_40, arr_40, B_X9_mark_41, B_X9_mark_51, B_X9_mark_56, B_X9_mark_57, fldv_8_20, fds_8_20, B_X9_mark_66, wi_istore, wi_tsw, B_X9_mark_100, wi_irem, wi_isub, B_X9_mark_113, wi_iload, B_X9_mark_121, B_X9_mark_123, B_X9_mark_129, wi_icmp_le, B_X9_mark_140, wi_goto, B_X9_mark_146, B_X9_mark_147, B_X9_mark_148, B_X9_mark_154, B_X9_mark_158, wi_bipush, wi_iadd, B_X9_mark_174, B_X9_mark_175, no0, no1, nz1, nz2, nz3, nz4, nz5, nz7, nz8, Classical.not_not, bz0, bz1, wi_nil, ld_0, ld_s, isIv_I, isLv_L, isRv_R, true_and, and_true, lset_0, lset_1, lset_s, avw_I, avw_L, avw_R, clr_cons, clr_nil, kst_0, kst_1, kstL_0, kstL_1, addk_I, pA_0, pA_s, pD_0, pD_s, wid_nil, wid_cons, rcv_c, putv_I, putv_L, List.length_cons, List.length_nil, List.set_cons_zero, List.set_cons_succ, not_false_eq_true, Nat.reduceMod, Nat.reduceDiv, Nat.reduceEqDiff, Nat.reduceLT, Nat.reduceLeDiff, Nat.reduceAdd, Nat.reduceSub, reduceIte, Nat.lt_irrefl, Nat.zero_ne_one, Nat.one_ne_zero, Nat.zero_add, List.nil_append, List.cons_append, Option.toList_some, Option.toList_none, forall_const, false_implies, true_implies, false_or, or_false, true_or, or_true, i_le, i_lt, i_eq, i_eq0, i_lt0, i_0le, i_0lt, i_le0, i_in1, i_cl, nI_add, pk_mul, pk_sub, i_div, i_rem, i_sh1, i_bit, i_or, i_and, i_andn, nt_le, nf_le, nt_lt, nf_lt, nt_eq, nf_eq, not_true_eq_false, and_self, and_false, false_and, eq_self, Bool.toNat_true, Bool.toNat_false, i_bool, i_bool1, Bool.false_eq_true, Bool.true_eq_false, reduceCtorEq, i_neg1, i_neg2, i_neg3, i_neg4, i_neg5, i_neg6, i_neg7, i_neg8, i_neg9, i_nega, i_negb, i_negc, i_max2, i_min2])
          refine c_meets (by decide) ?_
          try simp (disch := omega) only [no0, no1, nz1, nz2, nz3, nz4, nz5, nz7, nz8, Classical.not_not, bz0, bz1, wi_nil, ld_0, ld_s, isIv_I, isLv_L, isRv_R, true_and, and_true, lset_0, lset_1, lset_s, avw_I, avw_L, avw_R, clr_cons, clr_nil, kst_0, kst_1, kstL_0, kstL_1, addk_I, pA_0, pA_s, pD_0, pD_s, wid_nil, wid_cons, rcv_c, putv_I, putv_L, List.length_cons, List.length_nil, List.set_cons_zero, List.set_cons_succ, not_false_eq_true, Nat.reduceMod, Nat.reduceDiv, Nat.reduceEqDiff, Nat.reduceLT, Nat.reduceLeDiff, Nat.reduceAdd, Nat.reduceSub, reduceIte, Nat.lt_irrefl, Nat.zero_ne_one, Nat.one_ne_zero, Nat.zero_add, List.nil_append, List.cons_append, Option.toList_some, Option.toList_none, forall_const, false_implies, true_implies, false_or, or_false, true_or, or_true, i_le, i_lt, i_eq, i_eq0, i_lt0, i_0le, i_0lt, i_le0, i_in1, i_cl, nI_add, pk_mul, pk_sub, i_div, i_rem, i_sh1, i_bit, i_or, i_and, i_andn, nt_le, nf_le, nt_lt, nf_lt, nt_eq, nf_eq, not_true_eq_false, and_self, and_false, false_and, eq_self, Bool.toNat_true, Bool.toNat_false, i_bool, i_bool1, Bool.false_eq_true, Bool.true_eq_false, reduceCtorEq, i_neg1, i_neg2, i_neg3, i_neg4, i_neg5, i_neg6, i_neg7, i_neg8, i_neg9, i_nega, i_negb, i_negc, i_max2, i_min2, wi_nil]
          repeat (
            first
            | refine s_X9_mark_0 ?_
            | refine s_X9_mark_5 ?_
            | refine s_X9_mark_14 ?_
            | refine s_X9_mark_17 ?_
            | refine s_X9_mark_19 ?_
            | refine s_X9_mark_41 ?_
            | refine s_X9_mark_51 ?_
            | refine s_X9_mark_56 ?_
            | refine s_X9_mark_57 ?_
            | refine s_X9_mark_66 ?_
            | refine s_X9_mark_100 ?_
            | refine s_X9_mark_113 ?_
            | refine s_X9_mark_121 ?_
            | refine s_X9_mark_123 ?_
            | refine s_X9_mark_129 ?_
            | refine s_X9_mark_140 ?_
            | refine s_X9_mark_146 ?_
            | refine s_X9_mark_147 ?_
            | refine s_X9_mark_148 ?_
            | refine s_X9_mark_154 ?_
            | refine s_X9_mark_158 ?_
            | refine s_X9_mark_174 ?_
            | refine s_X9_mark_175 ?_
            simp (disch := omega) only [B_X9_mark_0, wi_aload_n, wi_iload_n, wi_invokevirtual, cnt_8, B_X9_mark_5, wi_if_eq, wi_iconst, wi_invokestatic, B_X9_mark_14, wi_if_ne, B_X9_mark_17, wi_ireturn, B_X9_mark_19, wi_getfield, fldv_8_11, fds_8_11, wi_iaload, wi_istore_n, wi_icmp_eq, wi_icmp_ne, cnt_36, aTy_36, aLn_36, arr_36, cnt_40, aTy_40, aLn_40, arr_40, B_X9_mark_41, B_X9_mark_51, B_X9_mark_56, B_X9_mark_57, fldv_8_20, fds_8_20, B_X9_mark_66, wi_istore, wi_tsw, B_X9_mark_100, wi_irem, wi_isub, B_X9_mark_113, wi_iload, B_X9_mark_121, B_X9_mark_123, B_X9_mark_129, wi_icmp_le, B_X9_mark_140, wi_goto, B_X9_mark_146, B_X9_mark_147, B_X9_mark_148, B_X9_mark_154, B_X9_mark_158, wi_bipush, wi_iadd, B_X9_mark_174, B_X9_mark_175, no0, no1, nz1, nz2, nz3, nz4, nz5, nz7, nz8, Classical.not_not, bz0, bz1, wi_nil, ld_0, ld_s, isIv_I, isLv_L, isRv_R, true_and, and_true, lset_0, lset_1, lset_s, avw_I, avw_L, avw_R, clr_cons, clr_nil, kst_0, kst_1, kstL_0, kstL_1, addk_I, pA_0, pA_s, pD_0, pD_s, wid_nil, wid_cons, rcv_c, putv_I, putv_L, List.length_cons, List.length_nil, List.set_cons_zero, List.set_cons_succ, not_false_eq_true, Nat.reduceMod, Nat.reduceDiv, Nat.reduceEqDiff, Nat.reduceLT, Nat.reduceLeDiff, Nat.reduceAdd, Nat.reduceSub, reduceIte, Nat.lt_irrefl, Nat.zero_ne_one, Nat.one_ne_zero, Nat.zero_add, List.nil_append, List.cons_append, Option.toList_some, Option.toList_none, forall_const, false_implies, true_implies, false_or, or_false, true_or, or_true, i_le, i_lt, i_eq, i_eq0, i_lt0, i_0le, i_0lt, i_le0, i_in1, i_cl, nI_add, pk_mul, pk_sub, i_div, i_rem, i_sh1, i_bit, i_or, i_and, i_andn, nt_le, nf_le, nt_lt, nf_lt, nt_eq, nf_eq, not_true_eq_false, and_self, and_false, false_and, eq_self, Bool.toNat_true, Bool.toNat_false, i_bool, i_bool1, Bool.false_eq_true, Bool.true_eq_false, reduceCtorEq, i_neg1, i_neg2, i_neg3, i_neg4, i_neg5, i_neg6, i_neg7, i_neg8, i_neg9, i_nega, i_negb, i_negc, i_max2, i_min2])
          exact pm (r_ref h (by decide) Fr.refl)
      · have hyes : Y 0 i = w ∨ (w = 1 ∧ Y 0 i = 4) ∨ (w = 3 ∧ Y 0 i = 5) := by
          rcases hw with rfl | rfl | rfl | rfl | rfl <;> simp only [hik, true_iff] at hk <;> omega
        have toM : ∀ z : Int32, wpX (d + 9) mX9_mark 57 [aR 8 0, aI (nI i), aI (nI w), aU, aU] [] S (PM z) → wpM (d + 10) mX9_mark [aR 8 0, aI (nI i), aI (nI w)] S (PM z) := by
          intro z q
          refine x_entry (ls2 := [aR 8 0, aI (nI i), aI (nI w), aU, aU]) (Nat.le_of_ble_eq_true rfl) pl_9 rfl (Nat.le_of_ble_eq_true rfl) ?_
          try simp (disch := omega) only [no0, no1, nz1, nz2, nz3, nz4, nz5, nz7, nz8, Classical.not_not, bz0, bz1, wi_nil, ld_0, ld_s, isIv_I, isLv_L, isRv_R, true_and, and_true, lset_0, lset_1, lset_s, avw_I, avw_L, avw_R, clr_cons, clr_nil, kst_0, kst_1, kstL_0, kstL_1, addk_I, pA_0, pA_s, pD_0, pD_s, wid_nil, wid_cons, rcv_c, putv_I, putv_L, List.length_cons, List.length_nil, List.set_cons_zero, List.set_cons_succ, not_false_eq_true, Nat.reduceMod, Nat.reduceDiv, Nat.reduceEqDiff, Nat.reduceLT, Nat.reduceLeDiff, Nat.reduceAdd, Nat.reduceSub, reduceIte, Nat.lt_irrefl, Nat.zero_ne_one, Nat.one_ne_zero, Nat.zero_add, List.nil_append, List.cons_append, Option.toList_some, Option.toList_none, forall_const, false_implies, true_implies, false_or, or_false, true_or, or_true, i_le, i_lt, i_eq, i_eq0, i_lt0, i_0le, i_0lt, i_le0, i_in1, i_cl, nI_add, pk_mul, pk_sub, i_div, i_rem, i_sh1, i_bit, i_or, i_and, i_andn, nt_le, nf_le, nt_lt, nf_lt, nt_eq, nf_eq, not_true_eq_false, and_self, and_false, false_and, eq_self, Bool.toNat_true, Bool.toNat_false, i_bool, i_bool1, Bool.false_eq_true, Bool.true_eq_false, reduceCtorEq, i_neg1, i_neg2, i_neg3, i_neg4, i_neg5, i_neg6, i_neg7, i_neg8, i_neg9, i_nega, i_negb, i_negc, i_max2, i_min2, wi_nil]
          repeat (
            first
            | refine s_X9_mark_0 ?_
            | refine s_X9_mark_5 ?_
            | refine s_X9_mark_14 ?_
            | refine s_X9_mark_17 ?_
            | refine s_X9_mark_19 ?_
            | refine s_X9_mark_41 ?_
            | refine s_X9_mark_51 ?_
            | refine s_X9_mark_56 ?_
            | refine s_X9_mark_57 ?_
            | refine s_X9_mark_66 ?_
            | refine s_X9_mark_100 ?_
            | refine s_X9_mark_113 ?_
            | refine s_X9_mark_121 ?_
            | refine s_X9_mark_123 ?_
            | refine s_X9_mark_129 ?_
            | refine s_X9_mark_140 ?_
            | refine s_X9_mark_146 ?_
            | refine s_X9_mark_147 ?_
            | refine s_X9_mark_148 ?_
            | refine s_X9_mark_154 ?_
            | refine s_X9_mark_158 ?_
            | refine s_X9_mark_174 ?_
            | refine s_X9_mark_175 ?_
            simp (disch := omega) only [B_X9_mark_0, wi_aload_n, wi_iload_n, wi_invokevirtual, cnt_8, B_X9_mark_5, wi_if_eq, wi_iconst, wi_invokestatic, B_X9_mark_14, wi_if_ne, B_X9_mark_17, wi_ireturn, B_X9_mark_19, wi_getfield, fldv_8_11, fds_8_11, wi_iaload, wi_istore_n, wi_icmp_eq, wi_icmp_ne, cnt_36, aTy_36, aLn_36, arr_36, cnt_40, aTy_40, aLn_40, arr_40, B_X9_mark_41, B_X9_mark_51, B_X9_mark_56, B_X9_mark_57, fldv_8_20, fds_8_20, B_X9_mark_66, wi_istore, wi_tsw, B_X9_mark_100, wi_irem, wi_isub, B_X9_mark_113, wi_iload, B_X9_mark_121, B_X9_mark_123, B_X9_mark_129, wi_icmp_le, B_X9_mark_140, wi_goto, B_X9_mark_146, B_X9_mark_147, B_X9_mark_148, B_X9_mark_154, B_X9_mark_158, wi_bipush, wi_iadd, B_X9_mark_174, B_X9_mark_175, no0, no1, nz1, nz2, nz3, nz4, nz5, nz7, nz8, Classical.not_not, bz0, bz1, wi_nil, ld_0, ld_s, isIv_I, isLv_L, isRv_R, true_and, and_true, lset_0, lset_1, lset_s, avw_I, avw_L, avw_R, clr_cons, clr_nil, kst_0, kst_1, kstL_0, kstL_1, addk_I, pA_0, pA_s, pD_0, pD_s, wid_nil, wid_cons, rcv_c, putv_I, putv_L, List.length_cons, List.length_nil, List.set_cons_zero, List.set_cons_succ, not_false_eq_true, Nat.reduceMod, Nat.reduceDiv, Nat.reduceEqDiff, Nat.reduceLT, Nat.reduceLeDiff, Nat.reduceAdd, Nat.reduceSub, reduceIte, Nat.lt_irrefl, Nat.zero_ne_one, Nat.one_ne_zero, Nat.zero_add, List.nil_append, List.cons_append, Option.toList_some, Option.toList_none, forall_const, false_implies, true_implies, false_or, or_false, true_or, or_true, i_le, i_lt, i_eq, i_eq0, i_lt0, i_0le, i_0lt, i_le0, i_in1, i_cl, nI_add, pk_mul, pk_sub, i_div, i_rem, i_sh1, i_bit, i_or, i_and, i_andn, nt_le, nf_le, nt_lt, nf_lt, nt_eq, nf_eq, not_true_eq_false, and_self, and_false, false_and, eq_self, Bool.toNat_true, Bool.toNat_false, i_bool, i_bool1, Bool.false_eq_true, Bool.true_eq_false, reduceCtorEq, i_neg1, i_neg2, i_neg3, i_neg4, i_neg5, i_neg6, i_neg7, i_neg8, i_neg9, i_nega, i_negb, i_negc, i_max2, i_min2])
          refine c_mDeed hm hn5 ?_
          try simp (disch := omega) only [no0, no1, nz1, nz2, nz3, nz4, nz5, nz7, nz8, Classical.not_not, bz0, bz1, wi_nil, ld_0, ld_s, isIv_I, isLv_L, isRv_R, true_and, and_true, lset_0, lset_1, lset_s, avw_I, avw_L, avw_R, clr_cons, clr_nil, kst_0, kst_1, kstL_0, kstL_1, addk_I, pA_0, pA_s, pD_0, pD_s, wid_nil, wid_cons, rcv_c, putv_I, putv_L, List.length_cons, List.length_nil, List.set_cons_zero, List.set_cons_succ, not_false_eq_true, Nat.reduceMod, Nat.reduceDiv, Nat.reduceEqDiff, Nat.reduceLT, Nat.reduceLeDiff, Nat.reduceAdd, Nat.reduceSub, reduceIte, Nat.lt_irrefl, Nat.zero_ne_one, Nat.one_ne_zero, Nat.zero_add, List.nil_append, List.cons_append, Option.toList_some, Option.toList_none, forall_const, false_implies, true_implies, false_or, or_false, true_or, or_true, i_le, i_lt, i_eq, i_eq0, i_lt0, i_0le, i_0lt, i_le0, i_in1, i_cl, nI_add, pk_mul, pk_sub, i_div, i_rem, i_sh1, i_bit, i_or, i_and, i_andn, nt_le, nf_le, nt_lt, nf_lt, nt_eq, nf_eq, not_true_eq_false, and_self, and_false, false_and, eq_self, Bool.toNat_true, Bool.toNat_false, i_bool, i_bool1, Bool.false_eq_true, Bool.true_eq_false, reduceCtorEq, i_neg1, i_neg2, i_neg3, i_neg4, i_neg5, i_neg6, i_neg7, i_neg8, i_neg9, i_nega, i_negb, i_negc, i_max2, i_min2, hi, wi_nil]
          repeat (
            first
            | refine s_X9_mark_0 ?_
            | refine s_X9_mark_5 ?_
            | refine s_X9_mark_14 ?_
            | refine s_X9_mark_17 ?_
            | refine s_X9_mark_19 ?_
            | refine s_X9_mark_41 ?_
            | refine s_X9_mark_51 ?_
            | refine s_X9_mark_56 ?_
            | refine s_X9_mark_57 ?_
            | refine s_X9_mark_66 ?_
            | refine s_X9_mark_100 ?_
            | refine s_X9_mark_113 ?_
            | refine s_X9_mark_121 ?_
            | refine s_X9_mark_123 ?_
            | refine s_X9_mark_129 ?_
            | refine s_X9_mark_140 ?_
            | refine s_X9_mark_146 ?_
            | refine s_X9_mark_147 ?_
            | refine s_X9_mark_148 ?_
            | refine s_X9_mark_154 ?_
            | refine s_X9_mark_158 ?_
            | refine s_X9_mark_174 ?_
            | refine s_X9_mark_175 ?_
            simp (disch := omega) only [B_X9_mark_0, wi_aload_n, wi_iload_n, wi_invokevirtual, cnt_8, B_X9_mark_5, wi_if_eq, wi_iconst, wi_invokestatic, B_X9_mark_14, wi_if_ne, B_X9_mark_17, wi_ireturn, B_X9_mark_19, wi_getfield, fldv_8_11, fds_8_11, wi_iaload, wi_istore_n, wi_icmp_eq, wi_icmp_ne, cnt_36, aTy_36, aLn_36, arr_36, cnt_40, aTy_40, aLn_40, arr_40, B_X9_mark_41, B_X9_mark_51, B_X9_mark_56, B_X9_mark_57, fldv_8_20, fds_8_20, B_X9_mark_66, wi_istore, wi_tsw, B_X9_mark_100, wi_irem, wi_isub, B_X9_mark_113, wi_iload, B_X9_mark_121, B_X9_mark_123, B_X9_mark_129, wi_icmp_le, B_X9_mark_140, wi_goto, B_X9_mark_146, B_X9_mark_147, B_X9_mark_148, B_X9_mark_154, B_X9_mark_158, wi_bipush, wi_iadd, B_X9_mark_174, B_X9_mark_175, no0, no1, nz1, nz2, nz3, nz4, nz5, nz7, nz8, Classical.not_not, bz0, bz1, wi_nil, ld_0, ld_s, isIv_I, isLv_L, isRv_R, true_and, and_true, lset_0, lset_1, lset_s, avw_I, avw_L, avw_R, clr_cons, clr_nil, kst_0, kst_1, kstL_0, kstL_1, addk_I, pA_0, pA_s, pD_0, pD_s, wid_nil, wid_cons, rcv_c, putv_I, putv_L, List.length_cons, List.length_nil, List.set_cons_zero, List.set_cons_succ, not_false_eq_true, Nat.reduceMod, Nat.reduceDiv, Nat.reduceEqDiff, Nat.reduceLT, Nat.reduceLeDiff, Nat.reduceAdd, Nat.reduceSub, reduceIte, Nat.lt_irrefl, Nat.zero_ne_one, Nat.one_ne_zero, Nat.zero_add, List.nil_append, List.cons_append, Option.toList_some, Option.toList_none, forall_const, false_implies, true_implies, false_or, or_false, true_or, or_true, i_le, i_lt, i_eq, i_eq0, i_lt0, i_0le, i_0lt, i_le0, i_in1, i_cl, nI_add, pk_mul, pk_sub, i_div, i_rem, i_sh1, i_bit, i_or, i_and, i_andn, nt_le, nf_le, nt_lt, nf_lt, nt_eq, nf_eq, not_true_eq_false, and_self, and_false, false_and, eq_self, Bool.toNat_true, Bool.toNat_false, i_bool, i_bool1, Bool.false_eq_true, Bool.true_eq_false, reduceCtorEq, i_neg1, i_neg2, i_neg3, i_neg4, i_neg5, i_neg6, i_neg7, i_neg8, i_neg9, i_nega, i_negb, i_negc, i_max2, i_min2, hi])
          refine c_in mb1 ?_
          try simp (disch := omega) only [no0, no1, nz1, nz2, nz3, nz4, nz5, nz7, nz8, Classical.not_not, bz0, bz1, wi_nil, ld_0, ld_s, isIv_I, isLv_L, isRv_R, true_and, and_true, lset_0, lset_1, lset_s, avw_I, avw_L, avw_R, clr_cons, clr_nil, kst_0, kst_1, kstL_0, kstL_1, addk_I, pA_0, pA_s, pD_0, pD_s, wid_nil, wid_cons, rcv_c, putv_I, putv_L, List.length_cons, List.length_nil, List.set_cons_zero, List.set_cons_succ, not_false_eq_true, Nat.reduceMod, Nat.reduceDiv, Nat.reduceEqDiff, Nat.reduceLT, Nat.reduceLeDiff, Nat.reduceAdd, Nat.reduceSub, reduceIte, Nat.lt_irrefl, Nat.zero_ne_one, Nat.one_ne_zero, Nat.zero_add, List.nil_append, List.cons_append, Option.toList_some, Option.toList_none, forall_const, false_implies, true_implies, false_or, or_false, true_or, or_true, i_le, i_lt, i_eq, i_eq0, i_lt0, i_0le, i_0lt, i_le0, i_in1, i_cl, nI_add, pk_mul, pk_sub, i_div, i_rem, i_sh1, i_bit, i_or, i_and, i_andn, nt_le, nf_le, nt_lt, nf_lt, nt_eq, nf_eq, not_true_eq_false, and_self, and_false, false_and, eq_self, Bool.toNat_true, Bool.toNat_false, i_bool, i_bool1, Bool.false_eq_true, Bool.true_eq_false, reduceCtorEq, i_neg1, i_neg2, i_neg3, i_neg4, i_neg5, i_neg6, i_neg7, i_neg8, i_neg9, i_nega, i_negb, i_negc, i_max2, i_min2, (m_kind hm), wi_nil]
          repeat (
            first
            | refine s_X9_mark_0 ?_
            | refine s_X9_mark_5 ?_
            | refine s_X9_mark_14 ?_
            | refine s_X9_mark_17 ?_
            | refine s_X9_mark_19 ?_
            | refine s_X9_mark_41 ?_
            | refine s_X9_mark_51 ?_
            | refine s_X9_mark_56 ?_
            | refine s_X9_mark_66 ?_
            | refine s_X9_mark_100 ?_
            | refine s_X9_mark_113 ?_
            | refine s_X9_mark_121 ?_
            | refine s_X9_mark_123 ?_
            | refine s_X9_mark_129 ?_
            | refine s_X9_mark_140 ?_
            | refine s_X9_mark_146 ?_
            | refine s_X9_mark_147 ?_
            | refine s_X9_mark_148 ?_
            | refine s_X9_mark_154 ?_
            | refine s_X9_mark_158 ?_
            | refine s_X9_mark_174 ?_
            | refine s_X9_mark_175 ?_
            simp (disch := omega) only [B_X9_mark_0, wi_aload_n, wi_iload_n, wi_invokevirtual, cnt_8, B_X9_mark_5, wi_if_eq, wi_iconst, wi_invokestatic, B_X9_mark_14, wi_if_ne, B_X9_mark_17, wi_ireturn, B_X9_mark_19, wi_getfield, fldv_8_11, fds_8_11, wi_iaload, wi_istore_n, wi_icmp_eq, wi_icmp_ne, cnt_36, aTy_36, aLn_36, arr_36, cnt_40, aTy_40, aLn_40, arr_40, B_X9_mark_41, B_X9_mark_51, B_X9_mark_56, B_X9_mark_57, fldv_8_20, fds_8_20, B_X9_mark_66, wi_istore, wi_tsw, B_X9_mark_100, wi_irem, wi_isub, B_X9_mark_113, wi_iload, B_X9_mark_121, B_X9_mark_123, B_X9_mark_129, wi_icmp_le, B_X9_mark_140, wi_goto, B_X9_mark_146, B_X9_mark_147, B_X9_mark_148, B_X9_mark_154, B_X9_mark_158, wi_bipush, wi_iadd, B_X9_mark_174, B_X9_mark_175, no0, no1, nz1, nz2, nz3, nz4, nz5, nz7, nz8, Classical.not_not, bz0, bz1, wi_nil, ld_0, ld_s, isIv_I, isLv_L, isRv_R, true_and, and_true, lset_0, lset_1, lset_s, avw_I, avw_L, avw_R, clr_cons, clr_nil, kst_0, kst_1, kstL_0, kstL_1, addk_I, pA_0, pA_s, pD_0, pD_s, wid_nil, wid_cons, rcv_c, putv_I, putv_L, List.length_cons, List.length_nil, List.set_cons_zero, List.set_cons_succ, not_false_eq_true, Nat.reduceMod, Nat.reduceDiv, Nat.reduceEqDiff, Nat.reduceLT, Nat.reduceLeDiff, Nat.reduceAdd, Nat.reduceSub, reduceIte, Nat.lt_irrefl, Nat.zero_ne_one, Nat.one_ne_zero, Nat.zero_add, List.nil_append, List.cons_append, Option.toList_some, Option.toList_none, forall_const, false_implies, true_implies, false_or, or_false, true_or, or_true, i_le, i_lt, i_eq, i_eq0, i_lt0, i_0le, i_0lt, i_le0, i_in1, i_cl, nI_add, pk_mul, pk_sub, i_div, i_rem, i_sh1, i_bit, i_or, i_and, i_andn, nt_le, nf_le, nt_lt, nf_lt, nt_eq, nf_eq, not_true_eq_false, and_self, and_false, false_and, eq_self, Bool.toNat_true, Bool.toNat_false, i_bool, i_bool1, Bool.false_eq_true, Bool.true_eq_false, reduceCtorEq, i_neg1, i_neg2, i_neg3, i_neg4, i_neg5, i_neg6, i_neg7, i_neg8, i_neg9, i_nega, i_negb, i_negc, i_max2, i_min2, (m_kind hm)])
          rcases hyes with e | ⟨e2, e⟩ | ⟨e2, e⟩
          · try simp (disch := omega) only [no0, no1, nz1, nz2, nz3, nz4, nz5, nz7, nz8, Classical.not_not, bz0, bz1, wi_nil, ld_0, ld_s, isIv_I, isLv_L, isRv_R, true_and, and_true, lset_0, lset_1, lset_s, avw_I, avw_L, avw_R, clr_cons, clr_nil, kst_0, kst_1, kstL_0, kstL_1, addk_I, pA_0, pA_s, pD_0, pD_s, wid_nil, wid_cons, rcv_c, putv_I, putv_L, List.length_cons, List.length_nil, List.set_cons_zero, List.set_cons_succ, not_false_eq_true, Nat.reduceMod, Nat.reduceDiv, Nat.reduceEqDiff, Nat.reduceLT, Nat.reduceLeDiff, Nat.reduceAdd, Nat.reduceSub, reduceIte, Nat.lt_irrefl, Nat.zero_ne_one, Nat.one_ne_zero, Nat.zero_add, List.nil_append, List.cons_append, Option.toList_some, Option.toList_none, forall_const, false_implies, true_implies, false_or, or_false, true_or, or_true, i_le, i_lt, i_eq, i_eq0, i_lt0, i_0le, i_0lt, i_le0, i_in1, i_cl, nI_add, pk_mul, pk_sub, i_div, i_rem, i_sh1, i_bit, i_or, i_and, i_andn, nt_le, nf_le, nt_lt, nf_lt, nt_eq, nf_eq, not_true_eq_false, and_self, and_false, false_and, eq_self, Bool.toNat_true, Bool.toNat_false, i_bool, i_bool1, Bool.false_eq_true, Bool.true_eq_false, reduceCtorEq, i_neg1, i_neg2, i_neg3, i_neg4, i_neg5, i_neg6, i_neg7, i_neg8, i_neg9, i_nega, i_negb, i_negc, i_max2, i_min2, wi_nil]
            repeat (
              first
              | refine s_X9_mark_0 ?_
              | refine s_X9_mark_5 ?_
              | refine s_X9_mark_14 ?_
              | refine s_X9_mark_17 ?_
              | refine s_X9_mark_19 ?_
              | refine s_X9_mark_41 ?_
              | refine s_X9_mark_51 ?_
              | refine s_X9_mark_56 ?_
              | refine s_X9_mark_66 ?_
              | refine s_X9_mark_100 ?_
              | refine s_X9_mark_113 ?_
              | refine s_X9_mark_121 ?_
              | refine s_X9_mark_123 ?_
              | refine s_X9_mark_129 ?_
              | refine s_X9_mark_140 ?_
              | refine s_X9_mark_146 ?_
              | refine s_X9_mark_147 ?_
              | refine s_X9_mark_148 ?_
              | refine s_X9_mark_154 ?_
              | refine s_X9_mark_158 ?_
              | refine s_X9_mark_174 ?_
              | refine s_X9_mark_175 ?_
              simp (disch := omega) only [B_X9_mark_0, wi_aload_n, wi_iload_n, wi_invokevirtual, cnt_8, B_X9_mark_5, wi_if_eq, wi_iconst, wi_invokestatic, B_X9_mark_14, wi_if_ne, B_X9_mark_17, wi_ireturn, B_X9_mark_19, wi_getfield, fldv_8_11, fds_8_11, wi_iaload, wi_istore_n, wi_icmp_eq, wi_icmp_ne, cnt_36, aTy_36, aLn_36, arr_36, cnt_40, aTy_40, aLn_40, arr_40, B_X9_mark_41, B_X9_mark_51, B_X9_mark_56, B_X9_mark_57, fldv_8_20, fds_8_20, B_X9_mark_66, wi_istore, wi_tsw, B_X9_mark_100, wi_irem, wi_isub, B_X9_mark_113, wi_iload, B_X9_mark_121, B_X9_mark_123, B_X9_mark_129, wi_icmp_le, B_X9_mark_140, wi_goto, B_X9_mark_146, B_X9_mark_147, B_X9_mark_148, B_X9_mark_154, B_X9_mark_158, wi_bipush, wi_iadd, B_X9_mark_174, B_X9_mark_175, no0, no1, nz1, nz2, nz3, nz4, nz5, nz7, nz8, Classical.not_not, bz0, bz1, wi_nil, ld_0, ld_s, isIv_I, isLv_L, isRv_R, true_and, and_true, lset_0, lset_1, lset_s, avw_I, avw_L, avw_R, clr_cons, clr_nil, kst_0, kst_1, kstL_0, kstL_1, addk_I, pA_0, pA_s, pD_0, pD_s, wid_nil, wid_cons, rcv_c, putv_I, putv_L, List.length_cons, List.length_nil, List.set_cons_zero, List.set_cons_succ, not_false_eq_true, Nat.reduceMod, Nat.reduceDiv, Nat.reduceEqDiff, Nat.reduceLT, Nat.reduceLeDiff, Nat.reduceAdd, Nat.reduceSub, reduceIte, Nat.lt_irrefl, Nat.zero_ne_one, Nat.one_ne_zero, Nat.zero_add, List.nil_append, List.cons_append, Option.toList_some, Option.toList_none, forall_const, false_implies, true_implies, false_or, or_false, true_or, or_true, i_le, i_lt, i_eq, i_eq0, i_lt0, i_0le, i_0lt, i_le0, i_in1, i_cl, nI_add, pk_mul, pk_sub, i_div, i_rem, i_sh1, i_bit, i_or, i_and, i_andn, nt_le, nf_le, nt_lt, nf_lt, nt_eq, nf_eq, not_true_eq_false, and_self, and_false, false_and, eq_self, Bool.toNat_true, Bool.toNat_false, i_bool, i_bool1, Bool.false_eq_true, Bool.true_eq_false, reduceCtorEq, i_neg1, i_neg2, i_neg3, i_neg4, i_neg5, i_neg6, i_neg7, i_neg8, i_neg9, i_nega, i_negb, i_negc, i_max2, i_min2])
            exact q
          · try simp (disch := omega) only [no0, no1, nz1, nz2, nz3, nz4, nz5, nz7, nz8, Classical.not_not, bz0, bz1, wi_nil, ld_0, ld_s, isIv_I, isLv_L, isRv_R, true_and, and_true, lset_0, lset_1, lset_s, avw_I, avw_L, avw_R, clr_cons, clr_nil, kst_0, kst_1, kstL_0, kstL_1, addk_I, pA_0, pA_s, pD_0, pD_s, wid_nil, wid_cons, rcv_c, putv_I, putv_L, List.length_cons, List.length_nil, List.set_cons_zero, List.set_cons_succ, not_false_eq_true, Nat.reduceMod, Nat.reduceDiv, Nat.reduceEqDiff, Nat.reduceLT, Nat.reduceLeDiff, Nat.reduceAdd, Nat.reduceSub, reduceIte, Nat.lt_irrefl, Nat.zero_ne_one, Nat.one_ne_zero, Nat.zero_add, List.nil_append, List.cons_append, Option.toList_some, Option.toList_none, forall_const, false_implies, true_implies, false_or, or_false, true_or, or_true, i_le, i_lt, i_eq, i_eq0, i_lt0, i_0le, i_0lt, i_le0, i_in1, i_cl, nI_add, pk_mul, pk_sub, i_div, i_rem, i_sh1, i_bit, i_or, i_and, i_andn, nt_le, nf_le, nt_lt, nf_lt, nt_eq, nf_eq, not_true_eq_false, and_self, and_false, false_and, eq_self, Bool.toNat_true, Bool.toNat_false, i_bool, i_bool1, Bool.false_eq_true, Bool.true_eq_false, reduceCtorEq, i_neg1, i_neg2, i_neg3, i_neg4, i_neg5, i_neg6, i_neg7, i_neg8, i_neg9, i_nega, i_negb, i_negc, i_max2, i_min2, wi_nil]
            repeat (
              first
              | refine s_X9_mark_0 ?_
              | refine s_X9_mark_5 ?_
              | refine s_X9_mark_14 ?_
              | refine s_X9_mark_17 ?_
              | refine s_X9_mark_19 ?_
              | refine s_X9_mark_41 ?_
              | refine s_X9_mark_51 ?_
              | refine s_X9_mark_56 ?_
              | refine s_X9_mark_66 ?_
              | refine s_X9_mark_100 ?_
              | refine s_X9_mark_113 ?_
              | refine s_X9_mark_121 ?_
              | refine s_X9_mark_123 ?_
              | refine s_X9_mark_129 ?_
              | refine s_X9_mark_140 ?_
              | refine s_X9_mark_146 ?_
              | refine s_X9_mark_147 ?_
              | refine s_X9_mark_148 ?_
              | refine s_X9_mark_154 ?_
              | refine s_X9_mark_158 ?_
              | refine s_X9_mark_174 ?_
              | refine s_X9_mark_175 ?_
              simp (disch := omega) only [B_X9_mark_0, wi_aload_n, wi_iload_n, wi_invokevirtual, cnt_8, B_X9_mark_5, wi_if_eq, wi_iconst, wi_invokestatic, B_X9_mark_14, wi_if_ne, B_X9_mark_17, wi_ireturn, B_X9_mark_19, wi_getfield, fldv_8_11, fds_8_11, wi_iaload, wi_istore_n, wi_icmp_eq, wi_icmp_ne, cnt_36, aTy_36, aLn_36, arr_36, cnt_40, aTy_40, aLn_40, arr_40, B_X9_mark_41, B_X9_mark_51, B_X9_mark_56, B_X9_mark_57, fldv_8_20, fds_8_20, B_X9_mark_66, wi_istore, wi_tsw, B_X9_mark_100, wi_irem, wi_isub, B_X9_mark_113, wi_iload, B_X9_mark_121, B_X9_mark_123, B_X9_mark_129, wi_icmp_le, B_X9_mark_140, wi_goto, B_X9_mark_146, B_X9_mark_147, B_X9_mark_148, B_X9_mark_154, B_X9_mark_158, wi_bipush, wi_iadd, B_X9_mark_174, B_X9_mark_175, no0, no1, nz1, nz2, nz3, nz4, nz5, nz7, nz8, Classical.not_not, bz0, bz1, wi_nil, ld_0, ld_s, isIv_I, isLv_L, isRv_R, true_and, and_true, lset_0, lset_1, lset_s, avw_I, avw_L, avw_R, clr_cons, clr_nil, kst_0, kst_1, kstL_0, kstL_1, addk_I, pA_0, pA_s, pD_0, pD_s, wid_nil, wid_cons, rcv_c, putv_I, putv_L, List.length_cons, List.length_nil, List.set_cons_zero, List.set_cons_succ, not_false_eq_true, Nat.reduceMod, Nat.reduceDiv, Nat.reduceEqDiff, Nat.reduceLT, Nat.reduceLeDiff, Nat.reduceAdd, Nat.reduceSub, reduceIte, Nat.lt_irrefl, Nat.zero_ne_one, Nat.one_ne_zero, Nat.zero_add, List.nil_append, List.cons_append, Option.toList_some, Option.toList_none, forall_const, false_implies, true_implies, false_or, or_false, true_or, or_true, i_le, i_lt, i_eq, i_eq0, i_lt0, i_0le, i_0lt, i_le0, i_in1, i_cl, nI_add, pk_mul, pk_sub, i_div, i_rem, i_sh1, i_bit, i_or, i_and, i_andn, nt_le, nf_le, nt_lt, nf_lt, nt_eq, nf_eq, not_true_eq_false, and_self, and_false, false_and, eq_self, Bool.toNat_true, Bool.toNat_false, i_bool, i_bool1, Bool.false_eq_true, Bool.true_eq_false, reduceCtorEq, i_neg1, i_neg2, i_neg3, i_neg4, i_neg5, i_neg6, i_neg7, i_neg8, i_neg9, i_nega, i_negb, i_negc, i_max2, i_min2])
            exact q
          · try simp (disch := omega) only [no0, no1, nz1, nz2, nz3, nz4, nz5, nz7, nz8, Classical.not_not, bz0, bz1, wi_nil, ld_0, ld_s, isIv_I, isLv_L, isRv_R, true_and, and_true, lset_0, lset_1, lset_s, avw_I, avw_L, avw_R, clr_cons, clr_nil, kst_0, kst_1, kstL_0, kstL_1, addk_I, pA_0, pA_s, pD_0, pD_s, wid_nil, wid_cons, rcv_c, putv_I, putv_L, List.length_cons, List.length_nil, List.set_cons_zero, List.set_cons_succ, not_false_eq_true, Nat.reduceMod, Nat.reduceDiv, Nat.reduceEqDiff, Nat.reduceLT, Nat.reduceLeDiff, Nat.reduceAdd, Nat.reduceSub, reduceIte, Nat.lt_irrefl, Nat.zero_ne_one, Nat.one_ne_zero, Nat.zero_add, List.nil_append, List.cons_append, Option.toList_some, Option.toList_none, forall_const, false_implies, true_implies, false_or, or_false, true_or, or_true, i_le, i_lt, i_eq, i_eq0, i_lt0, i_0le, i_0lt, i_le0, i_in1, i_cl, nI_add, pk_mul, pk_sub, i_div, i_rem, i_sh1, i_bit, i_or, i_and, i_andn, nt_le, nf_le, nt_lt, nf_lt, nt_eq, nf_eq, not_true_eq_false, and_self, and_false, false_and, eq_self, Bool.toNat_true, Bool.toNat_false, i_bool, i_bool1, Bool.false_eq_true, Bool.true_eq_false, reduceCtorEq, i_neg1, i_neg2, i_neg3, i_neg4, i_neg5, i_neg6, i_neg7, i_neg8, i_neg9, i_nega, i_negb, i_negc, i_max2, i_min2, wi_nil]
            repeat (
              first
              | refine s_X9_mark_0 ?_
              | refine s_X9_mark_5 ?_
              | refine s_X9_mark_14 ?_
              | refine s_X9_mark_17 ?_
              | refine s_X9_mark_19 ?_
              | refine s_X9_mark_41 ?_
              | refine s_X9_mark_51 ?_
              | refine s_X9_mark_56 ?_
              | refine s_X9_mark_66 ?_
              | refine s_X9_mark_100 ?_
              | refine s_X9_mark_113 ?_
              | refine s_X9_mark_121 ?_
              | refine s_X9_mark_123 ?_
              | refine s_X9_mark_129 ?_
              | refine s_X9_mark_140 ?_
              | refine s_X9_mark_146 ?_
              | refine s_X9_mark_147 ?_
              | refine s_X9_mark_148 ?_
              | refine s_X9_mark_154 ?_
              | refine s_X9_mark_158 ?_
              | refine s_X9_mark_174 ?_
              | refine s_X9_mark_175 ?_
              simp (disch := omega) only [B_X9_mark_0, wi_aload_n, wi_iload_n, wi_invokevirtual, cnt_8, B_X9_mark_5, wi_if_eq, wi_iconst, wi_invokestatic, B_X9_mark_14, wi_if_ne, B_X9_mark_17, wi_ireturn, B_X9_mark_19, wi_getfield, fldv_8_11, fds_8_11, wi_iaload, wi_istore_n, wi_icmp_eq, wi_icmp_ne, cnt_36, aTy_36, aLn_36, arr_36, cnt_40, aTy_40, aLn_40, arr_40, B_X9_mark_41, B_X9_mark_51, B_X9_mark_56, B_X9_mark_57, fldv_8_20, fds_8_20, B_X9_mark_66, wi_istore, wi_tsw, B_X9_mark_100, wi_irem, wi_isub, B_X9_mark_113, wi_iload, B_X9_mark_121, B_X9_mark_123, B_X9_mark_129, wi_icmp_le, B_X9_mark_140, wi_goto, B_X9_mark_146, B_X9_mark_147, B_X9_mark_148, B_X9_mark_154, B_X9_mark_158, wi_bipush, wi_iadd, B_X9_mark_174, B_X9_mark_175, no0, no1, nz1, nz2, nz3, nz4, nz5, nz7, nz8, Classical.not_not, bz0, bz1, wi_nil, ld_0, ld_s, isIv_I, isLv_L, isRv_R, true_and, and_true, lset_0, lset_1, lset_s, avw_I, avw_L, avw_R, clr_cons, clr_nil, kst_0, kst_1, kstL_0, kstL_1, addk_I, pA_0, pA_s, pD_0, pD_s, wid_nil, wid_cons, rcv_c, putv_I, putv_L, List.length_cons, List.length_nil, List.set_cons_zero, List.set_cons_succ, not_false_eq_true, Nat.reduceMod, Nat.reduceDiv, Nat.reduceEqDiff, Nat.reduceLT, Nat.reduceLeDiff, Nat.reduceAdd, Nat.reduceSub, reduceIte, Nat.lt_irrefl, Nat.zero_ne_one, Nat.one_ne_zero, Nat.zero_add, List.nil_append, List.cons_append, Option.toList_some, Option.toList_none, forall_const, false_implies, true_implies, false_or, or_false, true_or, or_true, i_le, i_lt, i_eq, i_eq0, i_lt0, i_0le, i_0lt, i_le0, i_in1, i_cl, nI_add, pk_mul, pk_sub, i_div, i_rem, i_sh1, i_bit, i_or, i_and, i_andn, nt_le, nf_le, nt_lt, nf_lt, nt_eq, nf_eq, not_true_eq_false, and_self, and_false, false_and, eq_self, Bool.toNat_true, Bool.toNat_false, i_bool, i_bool1, Bool.false_eq_true, Bool.true_eq_false, reduceCtorEq, i_neg1, i_neg2, i_neg3, i_neg4, i_neg5, i_neg6, i_neg7, i_neg8, i_neg9, i_nega, i_negb, i_negc, i_max2, i_min2])
            exact q
        have m69 : ∀ z : Int32, (∀ v, v = nI (yc Y i) → wpX (d + 9) mX9_mark 66 [aR 8 0, aI (nI i), aI (nI w), aU, aU] [aI v] S (PM z)) → wpX (d + 9) mX9_mark 57 [aR 8 0, aI (nI i), aI (nI w), aU, aU] [] S (PM z) := by
          intro z q
          try simp (disch := omega) only [no0, no1, nz1, nz2, nz3, nz4, nz5, nz7, nz8, Classical.not_not, bz0, bz1, wi_nil, ld_0, ld_s, isIv_I, isLv_L, isRv_R, true_and, and_true, lset_0, lset_1, lset_s, avw_I, avw_L, avw_R, clr_cons, clr_nil, kst_0, kst_1, kstL_0, kstL_1, addk_I, pA_0, pA_s, pD_0, pD_s, wid_nil, wid_cons, rcv_c, putv_I, putv_L, List.length_cons, List.length_nil, List.set_cons_zero, List.set_cons_succ, not_false_eq_true, Nat.reduceMod, Nat.reduceDiv, Nat.reduceEqDiff, Nat.reduceLT, Nat.reduceLeDiff, Nat.reduceAdd, Nat.reduceSub, reduceIte, Nat.lt_irrefl, Nat.zero_ne_one, Nat.one_ne_zero, Nat.zero_add, List.nil_append, List.cons_append, Option.toList_some, Option.toList_none, forall_const, false_implies, true_implies, false_or, or_false, true_or, or_true, i_le, i_lt, i_eq, i_eq0, i_lt0, i_0le, i_0lt, i_le0, i_in1, i_cl, nI_add, pk_mul, pk_sub, i_div, i_rem, i_sh1, i_bit, i_or, i_and, i_andn, nt_le, nf_le, nt_lt, nf_lt, nt_eq, nf_eq, not_true_eq_false, and_self, and_false, false_and, eq_self, Bool.toNat_true, Bool.toNat_false, i_bool, i_bool1, Bool.false_eq_true, Bool.true_eq_false, reduceCtorEq, i_neg1, i_neg2, i_neg3, i_neg4, i_neg5, i_neg6, i_neg7, i_neg8, i_neg9, i_nega, i_negb, i_negc, i_max2, i_min2, wi_nil]
          repeat (
            first
            | refine s_X9_mark_0 ?_
            | refine s_X9_mark_5 ?_
            | refine s_X9_mark_14 ?_
            | refine s_X9_mark_17 ?_
            | refine s_X9_mark_19 ?_
            | refine s_X9_mark_41 ?_
            | refine s_X9_mark_51 ?_
            | refine s_X9_mark_56 ?_
            | refine s_X9_mark_57 ?_
            | refine s_X9_mark_66 ?_
            | refine s_X9_mark_100 ?_
            | refine s_X9_mark_113 ?_
            | refine s_X9_mark_121 ?_
            | refine s_X9_mark_123 ?_
            | refine s_X9_mark_129 ?_
            | refine s_X9_mark_140 ?_
            | refine s_X9_mark_146 ?_
            | refine s_X9_mark_147 ?_
            | refine s_X9_mark_148 ?_
            | refine s_X9_mark_154 ?_
            | refine s_X9_mark_158 ?_
            | refine s_X9_mark_174 ?_
            | refine s_X9_mark_175 ?_
            simp (disch := omega) only [B_X9_mark_0, wi_aload_n, wi_iload_n, wi_invokevirtual, cnt_8, B_X9_mark_5, wi_if_eq, wi_iconst, wi_invokestatic, B_X9_mark_14, wi_if_ne, B_X9_mark_17, wi_ireturn, B_X9_mark_19, wi_getfield, fldv_8_11, fds_8_11, wi_iaload, wi_istore_n, wi_icmp_eq, wi_icmp_ne, cnt_36, aTy_36, aLn_36, arr_36, cnt_40, aTy_40, aLn_40, arr_40, B_X9_mark_41, B_X9_mark_51, B_X9_mark_56, B_X9_mark_57, fldv_8_20, fds_8_20, B_X9_mark_66, wi_istore, wi_tsw, B_X9_mark_100, wi_irem, wi_isub, B_X9_mark_113, wi_iload, B_X9_mark_121, B_X9_mark_123, B_X9_mark_129, wi_icmp_le, B_X9_mark_140, wi_goto, B_X9_mark_146, B_X9_mark_147, B_X9_mark_148, B_X9_mark_154, B_X9_mark_158, wi_bipush, wi_iadd, B_X9_mark_174, B_X9_mark_175, no0, no1, nz1, nz2, nz3, nz4, nz5, nz7, nz8, Classical.not_not, bz0, bz1, wi_nil, ld_0, ld_s, isIv_I, isLv_L, isRv_R, true_and, and_true, lset_0, lset_1, lset_s, avw_I, avw_L, avw_R, clr_cons, clr_nil, kst_0, kst_1, kstL_0, kstL_1, addk_I, pA_0, pA_s, pD_0, pD_s, wid_nil, wid_cons, rcv_c, putv_I, putv_L, List.length_cons, List.length_nil, List.set_cons_zero, List.set_cons_succ, not_false_eq_true, Nat.reduceMod, Nat.reduceDiv, Nat.reduceEqDiff, Nat.reduceLT, Nat.reduceLeDiff, Nat.reduceAdd, Nat.reduceSub, reduceIte, Nat.lt_irrefl, Nat.zero_ne_one, Nat.one_ne_zero, Nat.zero_add, List.nil_append, List.cons_append, Option.toList_some, Option.toList_none, forall_const, false_implies, true_implies, false_or, or_false, true_or, or_true, i_le, i_lt, i_eq, i_eq0, i_lt0, i_0le, i_0lt, i_le0, i_in1, i_cl, nI_add, pk_mul, pk_sub, i_div, i_rem, i_sh1, i_bit, i_or, i_and, i_andn, nt_le, nf_le, nt_lt, nf_lt, nt_eq, nf_eq, not_true_eq_false, and_self, and_false, false_and, eq_self, Bool.toNat_true, Bool.toNat_false, i_bool, i_bool1, Bool.false_eq_true, Bool.true_eq_false, reduceCtorEq, i_neg1, i_neg2, i_neg3, i_neg4, i_neg5, i_neg6, i_neg7, i_neg8, i_neg9, i_nega, i_negb, i_negc, i_max2, i_min2])
          refine c_costOn (Or.inl rfl) hm hok (by decide) hi2 ?_
          exact q _ rfl
        refine x_entry (ls2 := [aR 7 0, aI (nI i), aI (nI w), aU]) (Nat.le_of_ble_eq_true rfl) pl_8 rfl (Nat.le_of_ble_eq_true rfl) ?_
        try simp (disch := omega) only [no0, no1, nz1, nz2, nz3, nz4, nz5, nz7, nz8, Classical.not_not, bz0, bz1, wi_nil, ld_0, ld_s, isIv_I, isLv_L, isRv_R, true_and, and_true, lset_0, lset_1, lset_s, avw_I, avw_L, avw_R, clr_cons, clr_nil, kst_0, kst_1, kstL_0, kstL_1, addk_I, pA_0, pA_s, pD_0, pD_s, wid_nil, wid_cons, rcv_c, putv_I, putv_L, List.length_cons, List.length_nil, List.set_cons_zero, List.set_cons_succ, not_false_eq_true, Nat.reduceMod, Nat.reduceDiv, Nat.reduceEqDiff, Nat.reduceLT, Nat.reduceLeDiff, Nat.reduceAdd, Nat.reduceSub, reduceIte, Nat.lt_irrefl, Nat.zero_ne_one, Nat.one_ne_zero, Nat.zero_add, List.nil_append, List.cons_append, Option.toList_some, Option.toList_none, forall_const, false_implies, true_implies, false_or, or_false, true_or, or_true, i_le, i_lt, i_eq, i_eq0, i_lt0, i_0le, i_0lt, i_le0, i_in1, i_cl, nI_add, pk_mul, pk_sub, i_div, i_rem, i_sh1, i_bit, i_or, i_and, i_andn, nt_le, nf_le, nt_lt, nf_lt, nt_eq, nf_eq, not_true_eq_false, and_self, and_false, false_and, eq_self, Bool.toNat_true, Bool.toNat_false, i_bool, i_bool1, Bool.false_eq_true, Bool.true_eq_false, reduceCtorEq, i_neg1, i_neg2, i_neg3, i_neg4, i_neg5, i_neg6, i_neg7, i_neg8, i_neg9, i_nega, i_negb, i_negc, i_max2, i_min2, wi_nil]
        repeat (
          first
          | refine s_X8_mark_0 ?_
          | refine s_X8_mark_5 ?_
          | refine s_X8_mark_18 ?_
          | refine s_X8_mark_20 ?_
          | refine s_X8_mark_33 ?_
          | refine s_X8_mark_41 ?_
          | refine s_X8_mark_42 ?_
          | refine s_X8_mark_50 ?_
          | refine s_X8_mark_84 ?_
          | refine s_X8_mark_98 ?_
          | refine s_X8_mark_115 ?_
          | refine s_X8_mark_117 ?_
          | refine s_X8_mark_134 ?_
          | refine s_X8_mark_140 ?_
          | refine s_X8_mark_156 ?_
          | refine s_X8_mark_159 ?_
          | refine s_X8_mark_175 ?_
          | refine s_X8_mark_176 ?_
          simp (disch := omega) only [B_X8_mark_0, wi_aload_n, wi_iload_n, wi_invokevirtual, cnt_7, B_X8_mark_5, wi_if_eq, wi_if_le, wi_bipush, wi_icmp_lt, B_X8_mark_18, wi_iconst, wi_ireturn, B_X8_mark_20, wi_getfield, fldv_7_3, fds_7_3, fldv_6_0, fds_6_0, cnt_6, wi_iaload, wi_invokestatic, cnt_20, aTy_20, aLn_20, arr_20, cnt_24, aTy_24, aLn_24, arr_24, B_X8_mark_33, wi_if_ne, B_X8_mark_41, B_X8_mark_42, B_X8_mark_50, wi_istore_n, wi_tsw, B_X8_mark_84, fldv_6_8, fds_6_8, wi_irem, wi_isub, B_X8_mark_98, B_X8_mark_115, B_X8_mark_117, B_X8_mark_134, wi_max, B_X8_mark_140, B_X8_mark_156, B_X8_mark_159, fldv_6_4, fds_6_4, wi_goto, B_X8_mark_175, B_X8_mark_176, no0, no1, nz1, nz2, nz3, nz4, nz5, nz7, nz8, Classical.not_not, bz0, bz1, wi_nil, ld_0, ld_s, isIv_I, isLv_L, isRv_R, true_and, and_true, lset_0, lset_1, lset_s, avw_I, avw_L, avw_R, clr_cons, clr_nil, kst_0, kst_1, kstL_0, kstL_1, addk_I, pA_0, pA_s, pD_0, pD_s, wid_nil, wid_cons, rcv_c, putv_I, putv_L, List.length_cons, List.length_nil, List.set_cons_zero, List.set_cons_succ, not_false_eq_true, Nat.reduceMod, Nat.reduceDiv, Nat.reduceEqDiff, Nat.reduceLT, Nat.reduceLeDiff, Nat.reduceAdd, Nat.reduceSub, reduceIte, Nat.lt_irrefl, Nat.zero_ne_one, Nat.one_ne_zero, Nat.zero_add, List.nil_append, List.cons_append, Option.toList_some, Option.toList_none, forall_const, false_implies, true_implies, false_or, or_false, true_or, or_true, i_le, i_lt, i_eq, i_eq0, i_lt0, i_0le, i_0lt, i_le0, i_in1, i_cl, nI_add, pk_mul, pk_sub, i_div, i_rem, i_sh1, i_bit, i_or, i_and, i_andn, nt_le, nf_le, nt_lt, nf_lt, nt_eq, nf_eq, not_true_eq_false, and_self, and_false, false_and, eq_self, Bool.toNat_true, Bool.toNat_false, i_bool, i_bool1, Bool.false_eq_true, Bool.true_eq_false, reduceCtorEq, i_neg1, i_neg2, i_neg3, i_neg4, i_neg5, i_neg6, i_neg7, i_neg8, i_neg9, i_nega, i_negb, i_negc, i_max2, i_min2])
        refine c_isDeed hy hn5 ?_
        try simp (disch := omega) only [no0, no1, nz1, nz2, nz3, nz4, nz5, nz7, nz8, Classical.not_not, bz0, bz1, wi_nil, ld_0, ld_s, isIv_I, isLv_L, isRv_R, true_and, and_true, lset_0, lset_1, lset_s, avw_I, avw_L, avw_R, clr_cons, clr_nil, kst_0, kst_1, kstL_0, kstL_1, addk_I, pA_0, pA_s, pD_0, pD_s, wid_nil, wid_cons, rcv_c, putv_I, putv_L, List.length_cons, List.length_nil, List.set_cons_zero, List.set_cons_succ, not_false_eq_true, Nat.reduceMod, Nat.reduceDiv, Nat.reduceEqDiff, Nat.reduceLT, Nat.reduceLeDiff, Nat.reduceAdd, Nat.reduceSub, reduceIte, Nat.lt_irrefl, Nat.zero_ne_one, Nat.one_ne_zero, Nat.zero_add, List.nil_append, List.cons_append, Option.toList_some, Option.toList_none, forall_const, false_implies, true_implies, false_or, or_false, true_or, or_true, i_le, i_lt, i_eq, i_eq0, i_lt0, i_0le, i_0lt, i_le0, i_in1, i_cl, nI_add, pk_mul, pk_sub, i_div, i_rem, i_sh1, i_bit, i_or, i_and, i_andn, nt_le, nf_le, nt_lt, nf_lt, nt_eq, nf_eq, not_true_eq_false, and_self, and_false, false_and, eq_self, Bool.toNat_true, Bool.toNat_false, i_bool, i_bool1, Bool.false_eq_true, Bool.true_eq_false, reduceCtorEq, i_neg1, i_neg2, i_neg3, i_neg4, i_neg5, i_neg6, i_neg7, i_neg8, i_neg9, i_nega, i_negb, i_negc, i_max2, i_min2, hi, (y_kind hy), wi_nil]
        repeat (
          first
          | refine s_X8_mark_0 ?_
          | refine s_X8_mark_5 ?_
          | refine s_X8_mark_18 ?_
          | refine s_X8_mark_20 ?_
          | refine s_X8_mark_33 ?_
          | refine s_X8_mark_41 ?_
          | refine s_X8_mark_42 ?_
          | refine s_X8_mark_50 ?_
          | refine s_X8_mark_84 ?_
          | refine s_X8_mark_98 ?_
          | refine s_X8_mark_115 ?_
          | refine s_X8_mark_117 ?_
          | refine s_X8_mark_134 ?_
          | refine s_X8_mark_140 ?_
          | refine s_X8_mark_156 ?_
          | refine s_X8_mark_159 ?_
          | refine s_X8_mark_175 ?_
          | refine s_X8_mark_176 ?_
          simp (disch := omega) only [B_X8_mark_0, wi_aload_n, wi_iload_n, wi_invokevirtual, cnt_7, B_X8_mark_5, wi_if_eq, wi_if_le, wi_bipush, wi_icmp_lt, B_X8_mark_18, wi_iconst, wi_ireturn, B_X8_mark_20, wi_getfield, fldv_7_3, fds_7_3, fldv_6_0, fds_6_0, cnt_6, wi_iaload, wi_invokestatic, cnt_20, aTy_20, aLn_20, arr_20, cnt_24, aTy_24, aLn_24, arr_24, B_X8_mark_33, wi_if_ne, B_X8_mark_41, B_X8_mark_42, B_X8_mark_50, wi_istore_n, wi_tsw, B_X8_mark_84, fldv_6_8, fds_6_8, wi_irem, wi_isub, B_X8_mark_98, B_X8_mark_115, B_X8_mark_117, B_X8_mark_134, wi_max, B_X8_mark_140, B_X8_mark_156, B_X8_mark_159, fldv_6_4, fds_6_4, wi_goto, B_X8_mark_175, B_X8_mark_176, no0, no1, nz1, nz2, nz3, nz4, nz5, nz7, nz8, Classical.not_not, bz0, bz1, wi_nil, ld_0, ld_s, isIv_I, isLv_L, isRv_R, true_and, and_true, lset_0, lset_1, lset_s, avw_I, avw_L, avw_R, clr_cons, clr_nil, kst_0, kst_1, kstL_0, kstL_1, addk_I, pA_0, pA_s, pD_0, pD_s, wid_nil, wid_cons, rcv_c, putv_I, putv_L, List.length_cons, List.length_nil, List.set_cons_zero, List.set_cons_succ, not_false_eq_true, Nat.reduceMod, Nat.reduceDiv, Nat.reduceEqDiff, Nat.reduceLT, Nat.reduceLeDiff, Nat.reduceAdd, Nat.reduceSub, reduceIte, Nat.lt_irrefl, Nat.zero_ne_one, Nat.one_ne_zero, Nat.zero_add, List.nil_append, List.cons_append, Option.toList_some, Option.toList_none, forall_const, false_implies, true_implies, false_or, or_false, true_or, or_true, i_le, i_lt, i_eq, i_eq0, i_lt0, i_0le, i_0lt, i_le0, i_in1, i_cl, nI_add, pk_mul, pk_sub, i_div, i_rem, i_sh1, i_bit, i_or, i_and, i_andn, nt_le, nf_le, nt_lt, nf_lt, nt_eq, nf_eq, not_true_eq_false, and_self, and_false, false_and, eq_self, Bool.toNat_true, Bool.toNat_false, i_bool, i_bool1, Bool.false_eq_true, Bool.true_eq_false, reduceCtorEq, i_neg1, i_neg2, i_neg3, i_neg4, i_neg5, i_neg6, i_neg7, i_neg8, i_neg9, i_nega, i_negb, i_negc, i_max2, i_min2, hi, (y_kind hy)])
        refine c_isOf hb.1 (by omega) ?_
        try simp (disch := omega) only [no0, no1, nz1, nz2, nz3, nz4, nz5, nz7, nz8, Classical.not_not, bz0, bz1, wi_nil, ld_0, ld_s, isIv_I, isLv_L, isRv_R, true_and, and_true, lset_0, lset_1, lset_s, avw_I, avw_L, avw_R, clr_cons, clr_nil, kst_0, kst_1, kstL_0, kstL_1, addk_I, pA_0, pA_s, pD_0, pD_s, wid_nil, wid_cons, rcv_c, putv_I, putv_L, List.length_cons, List.length_nil, List.set_cons_zero, List.set_cons_succ, not_false_eq_true, Nat.reduceMod, Nat.reduceDiv, Nat.reduceEqDiff, Nat.reduceLT, Nat.reduceLeDiff, Nat.reduceAdd, Nat.reduceSub, reduceIte, Nat.lt_irrefl, Nat.zero_ne_one, Nat.one_ne_zero, Nat.zero_add, List.nil_append, List.cons_append, Option.toList_some, Option.toList_none, forall_const, false_implies, true_implies, false_or, or_false, true_or, or_true, i_le, i_lt, i_eq, i_eq0, i_lt0, i_0le, i_0lt, i_le0, i_in1, i_cl, nI_add, pk_mul, pk_sub, i_div, i_rem, i_sh1, i_bit, i_or, i_and, i_andn, nt_le, nf_le, nt_lt, nf_lt, nt_eq, nf_eq, not_true_eq_false, and_self, and_false, false_and, eq_self, Bool.toNat_true, Bool.toNat_false, i_bool, i_bool1, Bool.false_eq_true, Bool.true_eq_false, reduceCtorEq, i_neg1, i_neg2, i_neg3, i_neg4, i_neg5, i_neg6, i_neg7, i_neg8, i_neg9, i_nega, i_negb, i_negc, i_max2, i_min2, hik, wi_nil]
        repeat (
          first
          | refine s_X8_mark_0 ?_
          | refine s_X8_mark_5 ?_
          | refine s_X8_mark_18 ?_
          | refine s_X8_mark_20 ?_
          | refine s_X8_mark_33 ?_
          | refine s_X8_mark_41 ?_
          | refine s_X8_mark_42 ?_
          | refine s_X8_mark_50 ?_
          | refine s_X8_mark_84 ?_
          | refine s_X8_mark_98 ?_
          | refine s_X8_mark_115 ?_
          | refine s_X8_mark_117 ?_
          | refine s_X8_mark_134 ?_
          | refine s_X8_mark_140 ?_
          | refine s_X8_mark_156 ?_
          | refine s_X8_mark_159 ?_
          | refine s_X8_mark_175 ?_
          | refine s_X8_mark_176 ?_
          simp (disch := omega) only [B_X8_mark_0, wi_aload_n, wi_iload_n, wi_invokevirtual, cnt_7, B_X8_mark_5, wi_if_eq, wi_if_le, wi_bipush, wi_icmp_lt, B_X8_mark_18, wi_iconst, wi_ireturn, B_X8_mark_20, wi_getfield, fldv_7_3, fds_7_3, fldv_6_0, fds_6_0, cnt_6, wi_iaload, wi_invokestatic, cnt_20, aTy_20, aLn_20, arr_20, cnt_24, aTy_24, aLn_24, arr_24, B_X8_mark_33, wi_if_ne, B_X8_mark_41, B_X8_mark_42, B_X8_mark_50, wi_istore_n, wi_tsw, B_X8_mark_84, fldv_6_8, fds_6_8, wi_irem, wi_isub, B_X8_mark_98, B_X8_mark_115, B_X8_mark_117, B_X8_mark_134, wi_max, B_X8_mark_140, B_X8_mark_156, B_X8_mark_159, fldv_6_4, fds_6_4, wi_goto, B_X8_mark_175, B_X8_mark_176, no0, no1, nz1, nz2, nz3, nz4, nz5, nz7, nz8, Classical.not_not, bz0, bz1, wi_nil, ld_0, ld_s, isIv_I, isLv_L, isRv_R, true_and, and_true, lset_0, lset_1, lset_s, avw_I, avw_L, avw_R, clr_cons, clr_nil, kst_0, kst_1, kstL_0, kstL_1, addk_I, pA_0, pA_s, pD_0, pD_s, wid_nil, wid_cons, rcv_c, putv_I, putv_L, List.length_cons, List.length_nil, List.set_cons_zero, List.set_cons_succ, not_false_eq_true, Nat.reduceMod, Nat.reduceDiv, Nat.reduceEqDiff, Nat.reduceLT, Nat.reduceLeDiff, Nat.reduceAdd, Nat.reduceSub, reduceIte, Nat.lt_irrefl, Nat.zero_ne_one, Nat.one_ne_zero, Nat.zero_add, List.nil_append, List.cons_append, Option.toList_some, Option.toList_none, forall_const, false_implies, true_implies, false_or, or_false, true_or, or_true, i_le, i_lt, i_eq, i_eq0, i_lt0, i_0le, i_0lt, i_le0, i_in1, i_cl, nI_add, pk_mul, pk_sub, i_div, i_rem, i_sh1, i_bit, i_or, i_and, i_andn, nt_le, nf_le, nt_lt, nf_lt, nt_eq, nf_eq, not_true_eq_false, and_self, and_false, false_and, eq_self, Bool.toNat_true, Bool.toNat_false, i_bool, i_bool1, Bool.false_eq_true, Bool.true_eq_false, reduceCtorEq, i_neg1, i_neg2, i_neg3, i_neg4, i_neg5, i_neg6, i_neg7, i_neg8, i_neg9, i_nega, i_negb, i_negc, i_max2, i_min2, hik])
        refine c_yprice (by decide) hy hok (by decide) (by omega) hi2 ?_
        refine s_X8_mark_50 ?_
        simp (disch := omega) only [B_X8_mark_50, wi_istore_n, wi_iload_n, wi_tsw, no0, no1, nz1, nz2, nz3, nz4, nz5, nz7, nz8, Classical.not_not, bz0, bz1, wi_nil, ld_0, ld_s, isIv_I, isLv_L, isRv_R, true_and, and_true, lset_0, lset_1, lset_s, avw_I, avw_L, avw_R, clr_cons, clr_nil, kst_0, kst_1, kstL_0, kstL_1, addk_I, pA_0, pA_s, pD_0, pD_s, wid_nil, wid_cons, rcv_c, putv_I, putv_L, List.length_cons, List.length_nil, List.set_cons_zero, List.set_cons_succ, not_false_eq_true, Nat.reduceMod, Nat.reduceDiv, Nat.reduceEqDiff, Nat.reduceLT, Nat.reduceLeDiff, Nat.reduceAdd, Nat.reduceSub, reduceIte, Nat.lt_irrefl, Nat.zero_ne_one, Nat.one_ne_zero, Nat.zero_add, List.nil_append, List.cons_append, Option.toList_some, Option.toList_none, forall_const, false_implies, true_implies, false_or, or_false, true_or, or_true, i_le, i_lt, i_eq, i_eq0, i_lt0, i_0le, i_0lt, i_le0, i_in1, i_cl, nI_add, pk_mul, pk_sub, i_div, i_rem, i_sh1, i_bit, i_or, i_and, i_andn, nt_le, nf_le, nt_lt, nf_lt, nt_eq, nf_eq, not_true_eq_false, and_self, and_false, false_and, eq_self, Bool.toNat_true, Bool.toNat_false, i_bool, i_bool1, Bool.false_eq_true, Bool.true_eq_false, reduceCtorEq, i_neg1, i_neg2, i_neg3, i_neg4, i_neg5, i_neg6, i_neg7, i_neg8, i_neg9, i_nega, i_negb, i_negc, i_max2, i_min2]
        rcases hw with rfl | rfl | rfl | rfl | rfl
        · rw [show swt 52 107 1 4 #[32, 46, 65, 88] (nI 1) = 84 from by decide +kernel]
          try simp (disch := omega) only [no0, no1, nz1, nz2, nz3, nz4, nz5, nz7, nz8, Classical.not_not, bz0, bz1, wi_nil, ld_0, ld_s, isIv_I, isLv_L, isRv_R, true_and, and_true, lset_0, lset_1, lset_s, avw_I, avw_L, avw_R, clr_cons, clr_nil, kst_0, kst_1, kstL_0, kstL_1, addk_I, pA_0, pA_s, pD_0, pD_s, wid_nil, wid_cons, rcv_c, putv_I, putv_L, List.length_cons, List.length_nil, List.set_cons_zero, List.set_cons_succ, not_false_eq_true, Nat.reduceMod, Nat.reduceDiv, Nat.reduceEqDiff, Nat.reduceLT, Nat.reduceLeDiff, Nat.reduceAdd, Nat.reduceSub, reduceIte, Nat.lt_irrefl, Nat.zero_ne_one, Nat.one_ne_zero, Nat.zero_add, List.nil_append, List.cons_append, Option.toList_some, Option.toList_none, forall_const, false_implies, true_implies, false_or, or_false, true_or, or_true, i_le, i_lt, i_eq, i_eq0, i_lt0, i_0le, i_0lt, i_le0, i_in1, i_cl, nI_add, pk_mul, pk_sub, i_div, i_rem, i_sh1, i_bit, i_or, i_and, i_andn, nt_le, nf_le, nt_lt, nf_lt, nt_eq, nf_eq, not_true_eq_false, and_self, and_false, false_and, eq_self, Bool.toNat_true, Bool.toNat_false, i_bool, i_bool1, Bool.false_eq_true, Bool.true_eq_false, reduceCtorEq, i_neg1, i_neg2, i_neg3, i_neg4, i_neg5, i_neg6, i_neg7, i_neg8, i_neg9, i_nega, i_negb, i_negc, i_max2, i_min2, (y_day hy), wi_nil]
          repeat (
            first
            | refine s_X8_mark_0 ?_
            | refine s_X8_mark_5 ?_
            | refine s_X8_mark_18 ?_
            | refine s_X8_mark_20 ?_
            | refine s_X8_mark_33 ?_
            | refine s_X8_mark_41 ?_
            | refine s_X8_mark_42 ?_
            | refine s_X8_mark_50 ?_
            | refine s_X8_mark_84 ?_
            | refine s_X8_mark_98 ?_
            | refine s_X8_mark_115 ?_
            | refine s_X8_mark_117 ?_
            | refine s_X8_mark_134 ?_
            | refine s_X8_mark_140 ?_
            | refine s_X8_mark_156 ?_
            | refine s_X8_mark_159 ?_
            | refine s_X8_mark_175 ?_
            | refine s_X8_mark_176 ?_
            simp (disch := omega) only [B_X8_mark_0, wi_aload_n, wi_iload_n, wi_invokevirtual, cnt_7, B_X8_mark_5, wi_if_eq, wi_if_le, wi_bipush, wi_icmp_lt, B_X8_mark_18, wi_iconst, wi_ireturn, B_X8_mark_20, wi_getfield, fldv_7_3, fds_7_3, fldv_6_0, fds_6_0, cnt_6, wi_iaload, wi_invokestatic, cnt_20, aTy_20, aLn_20, arr_20, cnt_24, aTy_24, aLn_24, arr_24, B_X8_mark_33, wi_if_ne, B_X8_mark_41, B_X8_mark_42, B_X8_mark_50, wi_istore_n, wi_tsw, B_X8_mark_84, fldv_6_8, fds_6_8, wi_irem, wi_isub, B_X8_mark_98, B_X8_mark_115, B_X8_mark_117, B_X8_mark_134, wi_max, B_X8_mark_140, B_X8_mark_156, B_X8_mark_159, fldv_6_4, fds_6_4, wi_goto, B_X8_mark_175, B_X8_mark_176, no0, no1, nz1, nz2, nz3, nz4, nz5, nz7, nz8, Classical.not_not, bz0, bz1, wi_nil, ld_0, ld_s, isIv_I, isLv_L, isRv_R, true_and, and_true, lset_0, lset_1, lset_s, avw_I, avw_L, avw_R, clr_cons, clr_nil, kst_0, kst_1, kstL_0, kstL_1, addk_I, pA_0, pA_s, pD_0, pD_s, wid_nil, wid_cons, rcv_c, putv_I, putv_L, List.length_cons, List.length_nil, List.set_cons_zero, List.set_cons_succ, not_false_eq_true, Nat.reduceMod, Nat.reduceDiv, Nat.reduceEqDiff, Nat.reduceLT, Nat.reduceLeDiff, Nat.reduceAdd, Nat.reduceSub, reduceIte, Nat.lt_irrefl, Nat.zero_ne_one, Nat.one_ne_zero, Nat.zero_add, List.nil_append, List.cons_append, Option.toList_some, Option.toList_none, forall_const, false_implies, true_implies, false_or, or_false, true_or, or_true, i_le, i_lt, i_eq, i_eq0, i_lt0, i_0le, i_0lt, i_le0, i_in1, i_cl, nI_add, pk_mul, pk_sub, i_div, i_rem, i_sh1, i_bit, i_or, i_and, i_andn, nt_le, nf_le, nt_lt, nf_lt, nt_eq, nf_eq, not_true_eq_false, and_self, and_false, false_and, eq_self, Bool.toNat_true, Bool.toNat_false, i_bool, i_bool1, Bool.false_eq_true, Bool.true_eq_false, reduceCtorEq, i_neg1, i_neg2, i_neg3, i_neg4, i_neg5, i_neg6, i_neg7, i_neg8, i_neg9, i_nega, i_negb, i_negc, i_max2, i_min2, (y_day hy)])
          refine px (toM _ (m69 _ (fun v hv => ?_)))
          refine s_X9_mark_66 ?_
          simp (disch := omega) only [B_X9_mark_66, wi_istore, wi_iload_n, wi_tsw, no0, no1, nz1, nz2, nz3, nz4, nz5, nz7, nz8, Classical.not_not, bz0, bz1, wi_nil, ld_0, ld_s, isIv_I, isLv_L, isRv_R, true_and, and_true, lset_0, lset_1, lset_s, avw_I, avw_L, avw_R, clr_cons, clr_nil, kst_0, kst_1, kstL_0, kstL_1, addk_I, pA_0, pA_s, pD_0, pD_s, wid_nil, wid_cons, rcv_c, putv_I, putv_L, List.length_cons, List.length_nil, List.set_cons_zero, List.set_cons_succ, not_false_eq_true, Nat.reduceMod, Nat.reduceDiv, Nat.reduceEqDiff, Nat.reduceLT, Nat.reduceLeDiff, Nat.reduceAdd, Nat.reduceSub, reduceIte, Nat.lt_irrefl, Nat.zero_ne_one, Nat.one_ne_zero, Nat.zero_add, List.nil_append, List.cons_append, Option.toList_some, Option.toList_none, forall_const, false_implies, true_implies, false_or, or_false, true_or, or_true, i_le, i_lt, i_eq, i_eq0, i_lt0, i_0le, i_0lt, i_le0, i_in1, i_cl, nI_add, pk_mul, pk_sub, i_div, i_rem, i_sh1, i_bit, i_or, i_and, i_andn, nt_le, nf_le, nt_lt, nf_lt, nt_eq, nf_eq, not_true_eq_false, and_self, and_false, false_and, eq_self, Bool.toNat_true, Bool.toNat_false, i_bool, i_bool1, Bool.false_eq_true, Bool.true_eq_false, reduceCtorEq, i_neg1, i_neg2, i_neg3, i_neg4, i_neg5, i_neg6, i_neg7, i_neg8, i_neg9, i_nega, i_negb, i_negc, i_max2, i_min2]
          rw [show swt 69 89 1 4 #[31, 44, 54, 79] (nI 1) = 100 from by decide +kernel]
          try simp (disch := omega) only [no0, no1, nz1, nz2, nz3, nz4, nz5, nz7, nz8, Classical.not_not, bz0, bz1, wi_nil, ld_0, ld_s, isIv_I, isLv_L, isRv_R, true_and, and_true, lset_0, lset_1, lset_s, avw_I, avw_L, avw_R, clr_cons, clr_nil, kst_0, kst_1, kstL_0, kstL_1, addk_I, pA_0, pA_s, pD_0, pD_s, wid_nil, wid_cons, rcv_c, putv_I, putv_L, List.length_cons, List.length_nil, List.set_cons_zero, List.set_cons_succ, not_false_eq_true, Nat.reduceMod, Nat.reduceDiv, Nat.reduceEqDiff, Nat.reduceLT, Nat.reduceLeDiff, Nat.reduceAdd, Nat.reduceSub, reduceIte, Nat.lt_irrefl, Nat.zero_ne_one, Nat.one_ne_zero, Nat.zero_add, List.nil_append, List.cons_append, Option.toList_some, Option.toList_none, forall_const, false_implies, true_implies, false_or, or_false, true_or, or_true, i_le, i_lt, i_eq, i_eq0, i_lt0, i_0le, i_0lt, i_le0, i_in1, i_cl, nI_add, pk_mul, pk_sub, i_div, i_rem, i_sh1, i_bit, i_or, i_and, i_andn, nt_le, nf_le, nt_lt, nf_lt, nt_eq, nf_eq, not_true_eq_false, and_self, and_false, false_and, eq_self, Bool.toNat_true, Bool.toNat_false, i_bool, i_bool1, Bool.false_eq_true, Bool.true_eq_false, reduceCtorEq, i_neg1, i_neg2, i_neg3, i_neg4, i_neg5, i_neg6, i_neg7, i_neg8, i_neg9, i_nega, i_negb, i_negc, i_max2, i_min2, (m_day hm), wi_nil]
          repeat (
            first
            | refine s_X9_mark_0 ?_
            | refine s_X9_mark_5 ?_
            | refine s_X9_mark_14 ?_
            | refine s_X9_mark_17 ?_
            | refine s_X9_mark_19 ?_
            | refine s_X9_mark_41 ?_
            | refine s_X9_mark_51 ?_
            | refine s_X9_mark_56 ?_
            | refine s_X9_mark_57 ?_
            | refine s_X9_mark_66 ?_
            | refine s_X9_mark_100 ?_
            | refine s_X9_mark_113 ?_
            | refine s_X9_mark_121 ?_
            | refine s_X9_mark_123 ?_
            | refine s_X9_mark_129 ?_
            | refine s_X9_mark_140 ?_
            | refine s_X9_mark_146 ?_
            | refine s_X9_mark_147 ?_
            | refine s_X9_mark_148 ?_
            | refine s_X9_mark_154 ?_
            | refine s_X9_mark_158 ?_
            | refine s_X9_mark_174 ?_
            | refine s_X9_mark_175 ?_
            simp (disch := omega) only [B_X9_mark_0, wi_aload_n, wi_iload_n, wi_invokevirtual, cnt_8, B_X9_mark_5, wi_if_eq, wi_iconst, wi_invokestatic, B_X9_mark_14, wi_if_ne, B_X9_mark_17, wi_ireturn, B_X9_mark_19, wi_getfield, fldv_8_11, fds_8_11, wi_iaload, wi_istore_n, wi_icmp_eq, wi_icmp_ne, cnt_36, aTy_36, aLn_36, arr_36, cnt_40, aTy_40, aLn_40, arr_40, B_X9_mark_41, B_X9_mark_51, B_X9_mark_56, B_X9_mark_57, fldv_8_20, fds_8_20, B_X9_mark_66, wi_istore, wi_tsw, B_X9_mark_100, wi_irem, wi_isub, B_X9_mark_113, wi_iload, B_X9_mark_121, B_X9_mark_123, B_X9_mark_129, wi_icmp_le, B_X9_mark_140, wi_goto, B_X9_mark_146, B_X9_mark_147, B_X9_mark_148, B_X9_mark_154, B_X9_mark_158, wi_bipush, wi_iadd, B_X9_mark_174, B_X9_mark_175, no0, no1, nz1, nz2, nz3, nz4, nz5, nz7, nz8, Classical.not_not, bz0, bz1, wi_nil, ld_0, ld_s, isIv_I, isLv_L, isRv_R, true_and, and_true, lset_0, lset_1, lset_s, avw_I, avw_L, avw_R, clr_cons, clr_nil, kst_0, kst_1, kstL_0, kstL_1, addk_I, pA_0, pA_s, pD_0, pD_s, wid_nil, wid_cons, rcv_c, putv_I, putv_L, List.length_cons, List.length_nil, List.set_cons_zero, List.set_cons_succ, not_false_eq_true, Nat.reduceMod, Nat.reduceDiv, Nat.reduceEqDiff, Nat.reduceLT, Nat.reduceLeDiff, Nat.reduceAdd, Nat.reduceSub, reduceIte, Nat.lt_irrefl, Nat.zero_ne_one, Nat.one_ne_zero, Nat.zero_add, List.nil_append, List.cons_append, Option.toList_some, Option.toList_none, forall_const, false_implies, true_implies, false_or, or_false, true_or, or_true, i_le, i_lt, i_eq, i_eq0, i_lt0, i_0le, i_0lt, i_le0, i_in1, i_cl, nI_add, pk_mul, pk_sub, i_div, i_rem, i_sh1, i_bit, i_or, i_and, i_andn, nt_le, nf_le, nt_lt, nf_lt, nt_eq, nf_eq, not_true_eq_false, and_self, and_false, false_and, eq_self, Bool.toNat_true, Bool.toNat_false, i_bool, i_bool1, Bool.false_eq_true, Bool.true_eq_false, reduceCtorEq, i_neg1, i_neg2, i_neg3, i_neg4, i_neg5, i_neg6, i_neg7, i_neg8, i_neg9, i_nega, i_negb, i_negc, i_max2, i_min2, (m_day hm)])
          exact pm h
        · rw [show swt 52 107 1 4 #[32, 46, 65, 88] (nI 2) = 98 from by decide +kernel]
          try simp (disch := omega) only [no0, no1, nz1, nz2, nz3, nz4, nz5, nz7, nz8, Classical.not_not, bz0, bz1, wi_nil, ld_0, ld_s, isIv_I, isLv_L, isRv_R, true_and, and_true, lset_0, lset_1, lset_s, avw_I, avw_L, avw_R, clr_cons, clr_nil, kst_0, kst_1, kstL_0, kstL_1, addk_I, pA_0, pA_s, pD_0, pD_s, wid_nil, wid_cons, rcv_c, putv_I, putv_L, List.length_cons, List.length_nil, List.set_cons_zero, List.set_cons_succ, not_false_eq_true, Nat.reduceMod, Nat.reduceDiv, Nat.reduceEqDiff, Nat.reduceLT, Nat.reduceLeDiff, Nat.reduceAdd, Nat.reduceSub, reduceIte, Nat.lt_irrefl, Nat.zero_ne_one, Nat.one_ne_zero, Nat.zero_add, List.nil_append, List.cons_append, Option.toList_some, Option.toList_none, forall_const, false_implies, true_implies, false_or, or_false, true_or, or_true, i_le, i_lt, i_eq, i_eq0, i_lt0, i_0le, i_0lt, i_le0, i_in1, i_cl, nI_add, pk_mul, pk_sub, i_div, i_rem, i_sh1, i_bit, i_or, i_and, i_andn, nt_le, nf_le, nt_lt, nf_lt, nt_eq, nf_eq, not_true_eq_false, and_self, and_false, false_and, eq_self, Bool.toNat_true, Bool.toNat_false, i_bool, i_bool1, Bool.false_eq_true, Bool.true_eq_false, reduceCtorEq, i_neg1, i_neg2, i_neg3, i_neg4, i_neg5, i_neg6, i_neg7, i_neg8, i_neg9, i_nega, i_negb, i_negc, i_max2, i_min2, (y_day hy), wi_nil]
          repeat (
            first
            | refine s_X8_mark_0 ?_
            | refine s_X8_mark_5 ?_
            | refine s_X8_mark_18 ?_
            | refine s_X8_mark_20 ?_
            | refine s_X8_mark_33 ?_
            | refine s_X8_mark_41 ?_
            | refine s_X8_mark_42 ?_
            | refine s_X8_mark_50 ?_
            | refine s_X8_mark_84 ?_
            | refine s_X8_mark_98 ?_
            | refine s_X8_mark_115 ?_
            | refine s_X8_mark_117 ?_
            | refine s_X8_mark_134 ?_
            | refine s_X8_mark_140 ?_
            | refine s_X8_mark_156 ?_
            | refine s_X8_mark_159 ?_
            | refine s_X8_mark_175 ?_
            | refine s_X8_mark_176 ?_
            simp (disch := omega) only [B_X8_mark_0, wi_aload_n, wi_iload_n, wi_invokevirtual, cnt_7, B_X8_mark_5, wi_if_eq, wi_if_le, wi_bipush, wi_icmp_lt, B_X8_mark_18, wi_iconst, wi_ireturn, B_X8_mark_20, wi_getfield, fldv_7_3, fds_7_3, fldv_6_0, fds_6_0, cnt_6, wi_iaload, wi_invokestatic, cnt_20, aTy_20, aLn_20, arr_20, cnt_24, aTy_24, aLn_24, arr_24, B_X8_mark_33, wi_if_ne, B_X8_mark_41, B_X8_mark_42, B_X8_mark_50, wi_istore_n, wi_tsw, B_X8_mark_84, fldv_6_8, fds_6_8, wi_irem, wi_isub, B_X8_mark_98, B_X8_mark_115, B_X8_mark_117, B_X8_mark_134, wi_max, B_X8_mark_140, B_X8_mark_156, B_X8_mark_159, fldv_6_4, fds_6_4, wi_goto, B_X8_mark_175, B_X8_mark_176, no0, no1, nz1, nz2, nz3, nz4, nz5, nz7, nz8, Classical.not_not, bz0, bz1, wi_nil, ld_0, ld_s, isIv_I, isLv_L, isRv_R, true_and, and_true, lset_0, lset_1, lset_s, avw_I, avw_L, avw_R, clr_cons, clr_nil, kst_0, kst_1, kstL_0, kstL_1, addk_I, pA_0, pA_s, pD_0, pD_s, wid_nil, wid_cons, rcv_c, putv_I, putv_L, List.length_cons, List.length_nil, List.set_cons_zero, List.set_cons_succ, not_false_eq_true, Nat.reduceMod, Nat.reduceDiv, Nat.reduceEqDiff, Nat.reduceLT, Nat.reduceLeDiff, Nat.reduceAdd, Nat.reduceSub, reduceIte, Nat.lt_irrefl, Nat.zero_ne_one, Nat.one_ne_zero, Nat.zero_add, List.nil_append, List.cons_append, Option.toList_some, Option.toList_none, forall_const, false_implies, true_implies, false_or, or_false, true_or, or_true, i_le, i_lt, i_eq, i_eq0, i_lt0, i_0le, i_0lt, i_le0, i_in1, i_cl, nI_add, pk_mul, pk_sub, i_div, i_rem, i_sh1, i_bit, i_or, i_and, i_andn, nt_le, nf_le, nt_lt, nf_lt, nt_eq, nf_eq, not_true_eq_false, and_self, and_false, false_and, eq_self, Bool.toNat_true, Bool.toNat_false, i_bool, i_bool1, Bool.false_eq_true, Bool.true_eq_false, reduceCtorEq, i_neg1, i_neg2, i_neg3, i_neg4, i_neg5, i_neg6, i_neg7, i_neg8, i_neg9, i_nega, i_negb, i_negc, i_max2, i_min2, (y_day hy)])
          refine c_priceAs (by decide) hy hok (by decide) (by omega) hi2 (by decide) (by omega) ?_
          refine s_X8_mark_115 ?_
          simp only [B_X8_mark_115, wi_isub, wi_ireturn, no0, no1, nz1, nz2, nz3, nz4, nz5, nz7, nz8, Classical.not_not, bz0, bz1, wi_nil, ld_0, ld_s, isIv_I, isLv_L, isRv_R, true_and, and_true, lset_0, lset_1, lset_s, avw_I, avw_L, avw_R, clr_cons, clr_nil, kst_0, kst_1, kstL_0, kstL_1, addk_I, pA_0, pA_s, pD_0, pD_s, wid_nil, wid_cons, rcv_c, putv_I, putv_L, List.length_cons, List.length_nil, List.set_cons_zero, List.set_cons_succ, not_false_eq_true, Nat.reduceMod, Nat.reduceDiv, Nat.reduceEqDiff, Nat.reduceLT, Nat.reduceLeDiff, Nat.reduceAdd, Nat.reduceSub, reduceIte, Nat.lt_irrefl, Nat.zero_ne_one, Nat.one_ne_zero, Nat.zero_add, List.nil_append, List.cons_append, Option.toList_some, Option.toList_none, forall_const, false_implies, true_implies, false_or, or_false, true_or, or_true]
          refine px (toM _ (m69 _ (fun v hv => ?_)))
          subst hv
          refine s_X9_mark_66 ?_
          simp (disch := omega) only [B_X9_mark_66, wi_istore, wi_iload_n, wi_tsw, no0, no1, nz1, nz2, nz3, nz4, nz5, nz7, nz8, Classical.not_not, bz0, bz1, wi_nil, ld_0, ld_s, isIv_I, isLv_L, isRv_R, true_and, and_true, lset_0, lset_1, lset_s, avw_I, avw_L, avw_R, clr_cons, clr_nil, kst_0, kst_1, kstL_0, kstL_1, addk_I, pA_0, pA_s, pD_0, pD_s, wid_nil, wid_cons, rcv_c, putv_I, putv_L, List.length_cons, List.length_nil, List.set_cons_zero, List.set_cons_succ, not_false_eq_true, Nat.reduceMod, Nat.reduceDiv, Nat.reduceEqDiff, Nat.reduceLT, Nat.reduceLeDiff, Nat.reduceAdd, Nat.reduceSub, reduceIte, Nat.lt_irrefl, Nat.zero_ne_one, Nat.one_ne_zero, Nat.zero_add, List.nil_append, List.cons_append, Option.toList_some, Option.toList_none, forall_const, false_implies, true_implies, false_or, or_false, true_or, or_true, i_le, i_lt, i_eq, i_eq0, i_lt0, i_0le, i_0lt, i_le0, i_in1, i_cl, nI_add, pk_mul, pk_sub, i_div, i_rem, i_sh1, i_bit, i_or, i_and, i_andn, nt_le, nf_le, nt_lt, nf_lt, nt_eq, nf_eq, not_true_eq_false, and_self, and_false, false_and, eq_self, Bool.toNat_true, Bool.toNat_false, i_bool, i_bool1, Bool.false_eq_true, Bool.true_eq_false, reduceCtorEq, i_neg1, i_neg2, i_neg3, i_neg4, i_neg5, i_neg6, i_neg7, i_neg8, i_neg9, i_nega, i_negb, i_negc, i_max2, i_min2]
          rw [show swt 69 89 1 4 #[31, 44, 54, 79] (nI 2) = 113 from by decide +kernel]
          try simp (disch := omega) only [no0, no1, nz1, nz2, nz3, nz4, nz5, nz7, nz8, Classical.not_not, bz0, bz1, wi_nil, ld_0, ld_s, isIv_I, isLv_L, isRv_R, true_and, and_true, lset_0, lset_1, lset_s, avw_I, avw_L, avw_R, clr_cons, clr_nil, kst_0, kst_1, kstL_0, kstL_1, addk_I, pA_0, pA_s, pD_0, pD_s, wid_nil, wid_cons, rcv_c, putv_I, putv_L, List.length_cons, List.length_nil, List.set_cons_zero, List.set_cons_succ, not_false_eq_true, Nat.reduceMod, Nat.reduceDiv, Nat.reduceEqDiff, Nat.reduceLT, Nat.reduceLeDiff, Nat.reduceAdd, Nat.reduceSub, reduceIte, Nat.lt_irrefl, Nat.zero_ne_one, Nat.one_ne_zero, Nat.zero_add, List.nil_append, List.cons_append, Option.toList_some, Option.toList_none, forall_const, false_implies, true_implies, false_or, or_false, true_or, or_true, i_le, i_lt, i_eq, i_eq0, i_lt0, i_0le, i_0lt, i_le0, i_in1, i_cl, nI_add, pk_mul, pk_sub, i_div, i_rem, i_sh1, i_bit, i_or, i_and, i_andn, nt_le, nf_le, nt_lt, nf_lt, nt_eq, nf_eq, not_true_eq_false, and_self, and_false, false_and, eq_self, Bool.toNat_true, Bool.toNat_false, i_bool, i_bool1, Bool.false_eq_true, Bool.true_eq_false, reduceCtorEq, i_neg1, i_neg2, i_neg3, i_neg4, i_neg5, i_neg6, i_neg7, i_neg8, i_neg9, i_nega, i_negb, i_negc, i_max2, i_min2, wi_nil]
          repeat (
            first
            | refine s_X9_mark_0 ?_
            | refine s_X9_mark_5 ?_
            | refine s_X9_mark_14 ?_
            | refine s_X9_mark_17 ?_
            | refine s_X9_mark_19 ?_
            | refine s_X9_mark_41 ?_
            | refine s_X9_mark_51 ?_
            | refine s_X9_mark_56 ?_
            | refine s_X9_mark_57 ?_
            | refine s_X9_mark_66 ?_
            | refine s_X9_mark_100 ?_
            | refine s_X9_mark_113 ?_
            | refine s_X9_mark_121 ?_
            | refine s_X9_mark_123 ?_
            | refine s_X9_mark_129 ?_
            | refine s_X9_mark_140 ?_
            | refine s_X9_mark_146 ?_
            | refine s_X9_mark_147 ?_
            | refine s_X9_mark_148 ?_
            | refine s_X9_mark_154 ?_
            | refine s_X9_mark_158 ?_
            | refine s_X9_mark_174 ?_
            | refine s_X9_mark_175 ?_
            simp (disch := omega) only [B_X9_mark_0, wi_aload_n, wi_iload_n, wi_invokevirtual, cnt_8, B_X9_mark_5, wi_if_eq, wi_iconst, wi_invokestatic, B_X9_mark_14, wi_if_ne, B_X9_mark_17, wi_ireturn, B_X9_mark_19, wi_getfield, fldv_8_11, fds_8_11, wi_iaload, wi_istore_n, wi_icmp_eq, wi_icmp_ne, cnt_36, aTy_36, aLn_36, arr_36, cnt_40, aTy_40, aLn_40, arr_40, B_X9_mark_41, B_X9_mark_51, B_X9_mark_56, B_X9_mark_57, fldv_8_20, fds_8_20, B_X9_mark_66, wi_istore, wi_tsw, B_X9_mark_100, wi_irem, wi_isub, B_X9_mark_113, wi_iload, B_X9_mark_121, B_X9_mark_123, B_X9_mark_129, wi_icmp_le, B_X9_mark_140, wi_goto, B_X9_mark_146, B_X9_mark_147, B_X9_mark_148, B_X9_mark_154, B_X9_mark_158, wi_bipush, wi_iadd, B_X9_mark_174, B_X9_mark_175, no0, no1, nz1, nz2, nz3, nz4, nz5, nz7, nz8, Classical.not_not, bz0, bz1, wi_nil, ld_0, ld_s, isIv_I, isLv_L, isRv_R, true_and, and_true, lset_0, lset_1, lset_s, avw_I, avw_L, avw_R, clr_cons, clr_nil, kst_0, kst_1, kstL_0, kstL_1, addk_I, pA_0, pA_s, pD_0, pD_s, wid_nil, wid_cons, rcv_c, putv_I, putv_L, List.length_cons, List.length_nil, List.set_cons_zero, List.set_cons_succ, not_false_eq_true, Nat.reduceMod, Nat.reduceDiv, Nat.reduceEqDiff, Nat.reduceLT, Nat.reduceLeDiff, Nat.reduceAdd, Nat.reduceSub, reduceIte, Nat.lt_irrefl, Nat.zero_ne_one, Nat.one_ne_zero, Nat.zero_add, List.nil_append, List.cons_append, Option.toList_some, Option.toList_none, forall_const, false_implies, true_implies, false_or, or_false, true_or, or_true, i_le, i_lt, i_eq, i_eq0, i_lt0, i_0le, i_0lt, i_le0, i_in1, i_cl, nI_add, pk_mul, pk_sub, i_div, i_rem, i_sh1, i_bit, i_or, i_and, i_andn, nt_le, nf_le, nt_lt, nf_lt, nt_eq, nf_eq, not_true_eq_false, and_self, and_false, false_and, eq_self, Bool.toNat_true, Bool.toNat_false, i_bool, i_bool1, Bool.false_eq_true, Bool.true_eq_false, reduceCtorEq, i_neg1, i_neg2, i_neg3, i_neg4, i_neg5, i_neg6, i_neg7, i_neg8, i_neg9, i_nega, i_negb, i_negc, i_max2, i_min2])
          refine c_asKind hm hok (by decide) hi2 (by decide) ?_
          refine s_X9_mark_121 ?_
          simp only [B_X9_mark_121, wi_isub, wi_ireturn, no0, no1, nz1, nz2, nz3, nz4, nz5, nz7, nz8, Classical.not_not, bz0, bz1, wi_nil, ld_0, ld_s, isIv_I, isLv_L, isRv_R, true_and, and_true, lset_0, lset_1, lset_s, avw_I, avw_L, avw_R, clr_cons, clr_nil, kst_0, kst_1, kstL_0, kstL_1, addk_I, pA_0, pA_s, pD_0, pD_s, wid_nil, wid_cons, rcv_c, putv_I, putv_L, List.length_cons, List.length_nil, List.set_cons_zero, List.set_cons_succ, not_false_eq_true, Nat.reduceMod, Nat.reduceDiv, Nat.reduceEqDiff, Nat.reduceLT, Nat.reduceLeDiff, Nat.reduceAdd, Nat.reduceSub, reduceIte, Nat.lt_irrefl, Nat.zero_ne_one, Nat.one_ne_zero, Nat.zero_add, List.nil_append, List.cons_append, Option.toList_some, Option.toList_none, forall_const, false_implies, true_implies, false_or, or_false, true_or, or_true]
          exact pm h
        · rw [show swt 52 107 1 4 #[32, 46, 65, 88] (nI 3) = 117 from by decide +kernel]
          try simp (disch := omega) only [no0, no1, nz1, nz2, nz3, nz4, nz5, nz7, nz8, Classical.not_not, bz0, bz1, wi_nil, ld_0, ld_s, isIv_I, isLv_L, isRv_R, true_and, and_true, lset_0, lset_1, lset_s, avw_I, avw_L, avw_R, clr_cons, clr_nil, kst_0, kst_1, kstL_0, kstL_1, addk_I, pA_0, pA_s, pD_0, pD_s, wid_nil, wid_cons, rcv_c, putv_I, putv_L, List.length_cons, List.length_nil, List.set_cons_zero, List.set_cons_succ, not_false_eq_true, Nat.reduceMod, Nat.reduceDiv, Nat.reduceEqDiff, Nat.reduceLT, Nat.reduceLeDiff, Nat.reduceAdd, Nat.reduceSub, reduceIte, Nat.lt_irrefl, Nat.zero_ne_one, Nat.one_ne_zero, Nat.zero_add, List.nil_append, List.cons_append, Option.toList_some, Option.toList_none, forall_const, false_implies, true_implies, false_or, or_false, true_or, or_true, i_le, i_lt, i_eq, i_eq0, i_lt0, i_0le, i_0lt, i_le0, i_in1, i_cl, nI_add, pk_mul, pk_sub, i_div, i_rem, i_sh1, i_bit, i_or, i_and, i_andn, nt_le, nf_le, nt_lt, nf_lt, nt_eq, nf_eq, not_true_eq_false, and_self, and_false, false_and, eq_self, Bool.toNat_true, Bool.toNat_false, i_bool, i_bool1, Bool.false_eq_true, Bool.true_eq_false, reduceCtorEq, i_neg1, i_neg2, i_neg3, i_neg4, i_neg5, i_neg6, i_neg7, i_neg8, i_neg9, i_nega, i_negb, i_negc, i_max2, i_min2, (y_day hy), wi_nil]
          repeat (
            first
            | refine s_X8_mark_0 ?_
            | refine s_X8_mark_5 ?_
            | refine s_X8_mark_18 ?_
            | refine s_X8_mark_20 ?_
            | refine s_X8_mark_33 ?_
            | refine s_X8_mark_41 ?_
            | refine s_X8_mark_42 ?_
            | refine s_X8_mark_50 ?_
            | refine s_X8_mark_84 ?_
            | refine s_X8_mark_98 ?_
            | refine s_X8_mark_115 ?_
            | refine s_X8_mark_117 ?_
            | refine s_X8_mark_134 ?_
            | refine s_X8_mark_140 ?_
            | refine s_X8_mark_156 ?_
            | refine s_X8_mark_159 ?_
            | refine s_X8_mark_175 ?_
            | refine s_X8_mark_176 ?_
            simp (disch := omega) only [B_X8_mark_0, wi_aload_n, wi_iload_n, wi_invokevirtual, cnt_7, B_X8_mark_5, wi_if_eq, wi_if_le, wi_bipush, wi_icmp_lt, B_X8_mark_18, wi_iconst, wi_ireturn, B_X8_mark_20, wi_getfield, fldv_7_3, fds_7_3, fldv_6_0, fds_6_0, cnt_6, wi_iaload, wi_invokestatic, cnt_20, aTy_20, aLn_20, arr_20, cnt_24, aTy_24, aLn_24, arr_24, B_X8_mark_33, wi_if_ne, B_X8_mark_41, B_X8_mark_42, B_X8_mark_50, wi_istore_n, wi_tsw, B_X8_mark_84, fldv_6_8, fds_6_8, wi_irem, wi_isub, B_X8_mark_98, B_X8_mark_115, B_X8_mark_117, B_X8_mark_134, wi_max, B_X8_mark_140, B_X8_mark_156, B_X8_mark_159, fldv_6_4, fds_6_4, wi_goto, B_X8_mark_175, B_X8_mark_176, no0, no1, nz1, nz2, nz3, nz4, nz5, nz7, nz8, Classical.not_not, bz0, bz1, wi_nil, ld_0, ld_s, isIv_I, isLv_L, isRv_R, true_and, and_true, lset_0, lset_1, lset_s, avw_I, avw_L, avw_R, clr_cons, clr_nil, kst_0, kst_1, kstL_0, kstL_1, addk_I, pA_0, pA_s, pD_0, pD_s, wid_nil, wid_cons, rcv_c, putv_I, putv_L, List.length_cons, List.length_nil, List.set_cons_zero, List.set_cons_succ, not_false_eq_true, Nat.reduceMod, Nat.reduceDiv, Nat.reduceEqDiff, Nat.reduceLT, Nat.reduceLeDiff, Nat.reduceAdd, Nat.reduceSub, reduceIte, Nat.lt_irrefl, Nat.zero_ne_one, Nat.one_ne_zero, Nat.zero_add, List.nil_append, List.cons_append, Option.toList_some, Option.toList_none, forall_const, false_implies, true_implies, false_or, or_false, true_or, or_true, i_le, i_lt, i_eq, i_eq0, i_lt0, i_0le, i_0lt, i_le0, i_in1, i_cl, nI_add, pk_mul, pk_sub, i_div, i_rem, i_sh1, i_bit, i_or, i_and, i_andn, nt_le, nf_le, nt_lt, nf_lt, nt_eq, nf_eq, not_true_eq_false, and_self, and_false, false_and, eq_self, Bool.toNat_true, Bool.toNat_false, i_bool, i_bool1, Bool.false_eq_true, Bool.true_eq_false, reduceCtorEq, i_neg1, i_neg2, i_neg3, i_neg4, i_neg5, i_neg6, i_neg7, i_neg8, i_neg9, i_nega, i_negb, i_negc, i_max2, i_min2, (y_day hy)])
          refine c_priceAs (by decide) hy hok (by decide) (by omega) hi2 (by decide) (by omega) ?_
          refine s_X8_mark_134 ?_
          simp only [B_X8_mark_134, wi_iload_n, wi_isub, wi_max, wi_ireturn, no0, no1, nz1, nz2, nz3, nz4, nz5, nz7, nz8, Classical.not_not, bz0, bz1, wi_nil, ld_0, ld_s, isIv_I, isLv_L, isRv_R, true_and, and_true, lset_0, lset_1, lset_s, avw_I, avw_L, avw_R, clr_cons, clr_nil, kst_0, kst_1, kstL_0, kstL_1, addk_I, pA_0, pA_s, pD_0, pD_s, wid_nil, wid_cons, rcv_c, putv_I, putv_L, List.length_cons, List.length_nil, List.set_cons_zero, List.set_cons_succ, not_false_eq_true, Nat.reduceMod, Nat.reduceDiv, Nat.reduceEqDiff, Nat.reduceLT, Nat.reduceLeDiff, Nat.reduceAdd, Nat.reduceSub, reduceIte, Nat.lt_irrefl, Nat.zero_ne_one, Nat.one_ne_zero, Nat.zero_add, List.nil_append, List.cons_append, Option.toList_some, Option.toList_none, forall_const, false_implies, true_implies, false_or, or_false, true_or, or_true]
          rw [i_max0 (by omega) (by omega)]
          refine px (toM _ (m69 _ (fun v hv => ?_)))
          subst hv
          refine s_X9_mark_66 ?_
          simp (disch := omega) only [B_X9_mark_66, wi_istore, wi_iload_n, wi_tsw, no0, no1, nz1, nz2, nz3, nz4, nz5, nz7, nz8, Classical.not_not, bz0, bz1, wi_nil, ld_0, ld_s, isIv_I, isLv_L, isRv_R, true_and, and_true, lset_0, lset_1, lset_s, avw_I, avw_L, avw_R, clr_cons, clr_nil, kst_0, kst_1, kstL_0, kstL_1, addk_I, pA_0, pA_s, pD_0, pD_s, wid_nil, wid_cons, rcv_c, putv_I, putv_L, List.length_cons, List.length_nil, List.set_cons_zero, List.set_cons_succ, not_false_eq_true, Nat.reduceMod, Nat.reduceDiv, Nat.reduceEqDiff, Nat.reduceLT, Nat.reduceLeDiff, Nat.reduceAdd, Nat.reduceSub, reduceIte, Nat.lt_irrefl, Nat.zero_ne_one, Nat.one_ne_zero, Nat.zero_add, List.nil_append, List.cons_append, Option.toList_some, Option.toList_none, forall_const, false_implies, true_implies, false_or, or_false, true_or, or_true, i_le, i_lt, i_eq, i_eq0, i_lt0, i_0le, i_0lt, i_le0, i_in1, i_cl, nI_add, pk_mul, pk_sub, i_div, i_rem, i_sh1, i_bit, i_or, i_and, i_andn, nt_le, nf_le, nt_lt, nf_lt, nt_eq, nf_eq, not_true_eq_false, and_self, and_false, false_and, eq_self, Bool.toNat_true, Bool.toNat_false, i_bool, i_bool1, Bool.false_eq_true, Bool.true_eq_false, reduceCtorEq, i_neg1, i_neg2, i_neg3, i_neg4, i_neg5, i_neg6, i_neg7, i_neg8, i_neg9, i_nega, i_negb, i_negc, i_max2, i_min2]
          rw [show swt 69 89 1 4 #[31, 44, 54, 79] (nI 3) = 123 from by decide +kernel]
          try simp (disch := omega) only [no0, no1, nz1, nz2, nz3, nz4, nz5, nz7, nz8, Classical.not_not, bz0, bz1, wi_nil, ld_0, ld_s, isIv_I, isLv_L, isRv_R, true_and, and_true, lset_0, lset_1, lset_s, avw_I, avw_L, avw_R, clr_cons, clr_nil, kst_0, kst_1, kstL_0, kstL_1, addk_I, pA_0, pA_s, pD_0, pD_s, wid_nil, wid_cons, rcv_c, putv_I, putv_L, List.length_cons, List.length_nil, List.set_cons_zero, List.set_cons_succ, not_false_eq_true, Nat.reduceMod, Nat.reduceDiv, Nat.reduceEqDiff, Nat.reduceLT, Nat.reduceLeDiff, Nat.reduceAdd, Nat.reduceSub, reduceIte, Nat.lt_irrefl, Nat.zero_ne_one, Nat.one_ne_zero, Nat.zero_add, List.nil_append, List.cons_append, Option.toList_some, Option.toList_none, forall_const, false_implies, true_implies, false_or, or_false, true_or, or_true, i_le, i_lt, i_eq, i_eq0, i_lt0, i_0le, i_0lt, i_le0, i_in1, i_cl, nI_add, pk_mul, pk_sub, i_div, i_rem, i_sh1, i_bit, i_or, i_and, i_andn, nt_le, nf_le, nt_lt, nf_lt, nt_eq, nf_eq, not_true_eq_false, and_self, and_false, false_and, eq_self, Bool.toNat_true, Bool.toNat_false, i_bool, i_bool1, Bool.false_eq_true, Bool.true_eq_false, reduceCtorEq, i_neg1, i_neg2, i_neg3, i_neg4, i_neg5, i_neg6, i_neg7, i_neg8, i_neg9, i_nega, i_negb, i_negc, i_max2, i_min2, wi_nil]
          repeat (
            first
            | refine s_X9_mark_0 ?_
            | refine s_X9_mark_5 ?_
            | refine s_X9_mark_14 ?_
            | refine s_X9_mark_17 ?_
            | refine s_X9_mark_19 ?_
            | refine s_X9_mark_41 ?_
            | refine s_X9_mark_51 ?_
            | refine s_X9_mark_56 ?_
            | refine s_X9_mark_57 ?_
            | refine s_X9_mark_66 ?_
            | refine s_X9_mark_100 ?_
            | refine s_X9_mark_113 ?_
            | refine s_X9_mark_121 ?_
            | refine s_X9_mark_123 ?_
            | refine s_X9_mark_129 ?_
            | refine s_X9_mark_140 ?_
            | refine s_X9_mark_146 ?_
            | refine s_X9_mark_147 ?_
            | refine s_X9_mark_148 ?_
            | refine s_X9_mark_154 ?_
            | refine s_X9_mark_158 ?_
            | refine s_X9_mark_174 ?_
            | refine s_X9_mark_175 ?_
            simp (disch := omega) only [B_X9_mark_0, wi_aload_n, wi_iload_n, wi_invokevirtual, cnt_8, B_X9_mark_5, wi_if_eq, wi_iconst, wi_invokestatic, B_X9_mark_14, wi_if_ne, B_X9_mark_17, wi_ireturn, B_X9_mark_19, wi_getfield, fldv_8_11, fds_8_11, wi_iaload, wi_istore_n, wi_icmp_eq, wi_icmp_ne, cnt_36, aTy_36, aLn_36, arr_36, cnt_40, aTy_40, aLn_40, arr_40, B_X9_mark_41, B_X9_mark_51, B_X9_mark_56, B_X9_mark_57, fldv_8_20, fds_8_20, B_X9_mark_66, wi_istore, wi_tsw, B_X9_mark_100, wi_irem, wi_isub, B_X9_mark_113, wi_iload, B_X9_mark_121, B_X9_mark_123, B_X9_mark_129, wi_icmp_le, B_X9_mark_140, wi_goto, B_X9_mark_146, B_X9_mark_147, B_X9_mark_148, B_X9_mark_154, B_X9_mark_158, wi_bipush, wi_iadd, B_X9_mark_174, B_X9_mark_175, no0, no1, nz1, nz2, nz3, nz4, nz5, nz7, nz8, Classical.not_not, bz0, bz1, wi_nil, ld_0, ld_s, isIv_I, isLv_L, isRv_R, true_and, and_true, lset_0, lset_1, lset_s, avw_I, avw_L, avw_R, clr_cons, clr_nil, kst_0, kst_1, kstL_0, kstL_1, addk_I, pA_0, pA_s, pD_0, pD_s, wid_nil, wid_cons, rcv_c, putv_I, putv_L, List.length_cons, List.length_nil, List.set_cons_zero, List.set_cons_succ, not_false_eq_true, Nat.reduceMod, Nat.reduceDiv, Nat.reduceEqDiff, Nat.reduceLT, Nat.reduceLeDiff, Nat.reduceAdd, Nat.reduceSub, reduceIte, Nat.lt_irrefl, Nat.zero_ne_one, Nat.one_ne_zero, Nat.zero_add, List.nil_append, List.cons_append, Option.toList_some, Option.toList_none, forall_const, false_implies, true_implies, false_or, or_false, true_or, or_true, i_le, i_lt, i_eq, i_eq0, i_lt0, i_0le, i_0lt, i_le0, i_in1, i_cl, nI_add, pk_mul, pk_sub, i_div, i_rem, i_sh1, i_bit, i_or, i_and, i_andn, nt_le, nf_le, nt_lt, nf_lt, nt_eq, nf_eq, not_true_eq_false, and_self, and_false, false_and, eq_self, Bool.toNat_true, Bool.toNat_false, i_bool, i_bool1, Bool.false_eq_true, Bool.true_eq_false, reduceCtorEq, i_neg1, i_neg2, i_neg3, i_neg4, i_neg5, i_neg6, i_neg7, i_neg8, i_neg9, i_nega, i_negb, i_negc, i_max2, i_min2])
          refine c_asKind hm hok (by decide) hi2 (by decide) ?_
          by_cases hle : prc 0 (Y 1 i) (Y 2 i) (Y 3 i) (Y 4 i) (Y 6 1) ≤ yc Y i
          · try simp (disch := omega) only [no0, no1, nz1, nz2, nz3, nz4, nz5, nz7, nz8, Classical.not_not, bz0, bz1, wi_nil, ld_0, ld_s, isIv_I, isLv_L, isRv_R, true_and, and_true, lset_0, lset_1, lset_s, avw_I, avw_L, avw_R, clr_cons, clr_nil, kst_0, kst_1, kstL_0, kstL_1, addk_I, pA_0, pA_s, pD_0, pD_s, wid_nil, wid_cons, rcv_c, putv_I, putv_L, List.length_cons, List.length_nil, List.set_cons_zero, List.set_cons_succ, not_false_eq_true, Nat.reduceMod, Nat.reduceDiv, Nat.reduceEqDiff, Nat.reduceLT, Nat.reduceLeDiff, Nat.reduceAdd, Nat.reduceSub, reduceIte, Nat.lt_irrefl, Nat.zero_ne_one, Nat.one_ne_zero, Nat.zero_add, List.nil_append, List.cons_append, Option.toList_some, Option.toList_none, forall_const, false_implies, true_implies, false_or, or_false, true_or, or_true, i_le, i_lt, i_eq, i_eq0, i_lt0, i_0le, i_0lt, i_le0, i_in1, i_cl, nI_add, pk_mul, pk_sub, i_div, i_rem, i_sh1, i_bit, i_or, i_and, i_andn, nt_le, nf_le, nt_lt, nf_lt, nt_eq, nf_eq, not_true_eq_false, and_self, and_false, false_and, eq_self, Bool.toNat_true, Bool.toNat_false, i_bool, i_bool1, Bool.false_eq_true, Bool.true_eq_false, reduceCtorEq, i_neg1, i_neg2, i_neg3, i_neg4, i_neg5, i_neg6, i_neg7, i_neg8, i_neg9, i_nega, i_negb, i_negc, i_max2, i_min2, wi_nil]
            repeat (
              first
              | refine s_X9_mark_0 ?_
              | refine s_X9_mark_5 ?_
              | refine s_X9_mark_14 ?_
              | refine s_X9_mark_17 ?_
              | refine s_X9_mark_19 ?_
              | refine s_X9_mark_41 ?_
              | refine s_X9_mark_51 ?_
              | refine s_X9_mark_56 ?_
              | refine s_X9_mark_57 ?_
              | refine s_X9_mark_66 ?_
              | refine s_X9_mark_100 ?_
              | refine s_X9_mark_113 ?_
              | refine s_X9_mark_121 ?_
              | refine s_X9_mark_123 ?_
              | refine s_X9_mark_129 ?_
              | refine s_X9_mark_140 ?_
              | refine s_X9_mark_146 ?_
              | refine s_X9_mark_147 ?_
              | refine s_X9_mark_148 ?_
              | refine s_X9_mark_154 ?_
              | refine s_X9_mark_158 ?_
              | refine s_X9_mark_174 ?_
              | refine s_X9_mark_175 ?_
              simp (disch := omega) only [B_X9_mark_0, wi_aload_n, wi_iload_n, wi_invokevirtual, cnt_8, B_X9_mark_5, wi_if_eq, wi_iconst, wi_invokestatic, B_X9_mark_14, wi_if_ne, B_X9_mark_17, wi_ireturn, B_X9_mark_19, wi_getfield, fldv_8_11, fds_8_11, wi_iaload, wi_istore_n, wi_icmp_eq, wi_icmp_ne, cnt_36, aTy_36, aLn_36, arr_36, cnt_40, aTy_40, aLn_40, arr_40, B_X9_mark_41, B_X9_mark_51, B_X9_mark_56, B_X9_mark_57, fldv_8_20, fds_8_20, B_X9_mark_66, wi_istore, wi_tsw, B_X9_mark_100, wi_irem, wi_isub, B_X9_mark_113, wi_iload, B_X9_mark_121, B_X9_mark_123, B_X9_mark_129, wi_icmp_le, B_X9_mark_140, wi_goto, B_X9_mark_146, B_X9_mark_147, B_X9_mark_148, B_X9_mark_154, B_X9_mark_158, wi_bipush, wi_iadd, B_X9_mark_174, B_X9_mark_175, no0, no1, nz1, nz2, nz3, nz4, nz5, nz7, nz8, Classical.not_not, bz0, bz1, wi_nil, ld_0, ld_s, isIv_I, isLv_L, isRv_R, true_and, and_true, lset_0, lset_1, lset_s, avw_I, avw_L, avw_R, clr_cons, clr_nil, kst_0, kst_1, kstL_0, kstL_1, addk_I, pA_0, pA_s, pD_0, pD_s, wid_nil, wid_cons, rcv_c, putv_I, putv_L, List.length_cons, List.length_nil, List.set_cons_zero, List.set_cons_succ, not_false_eq_true, Nat.reduceMod, Nat.reduceDiv, Nat.reduceEqDiff, Nat.reduceLT, Nat.reduceLeDiff, Nat.reduceAdd, Nat.reduceSub, reduceIte, Nat.lt_irrefl, Nat.zero_ne_one, Nat.one_ne_zero, Nat.zero_add, List.nil_append, List.cons_append, Option.toList_some, Option.toList_none, forall_const, false_implies, true_implies, false_or, or_false, true_or, or_true, i_le, i_lt, i_eq, i_eq0, i_lt0, i_0le, i_0lt, i_le0, i_in1, i_cl, nI_add, pk_mul, pk_sub, i_div, i_rem, i_sh1, i_bit, i_or, i_and, i_andn, nt_le, nf_le, nt_lt, nf_lt, nt_eq, nf_eq, not_true_eq_false, and_self, and_false, false_and, eq_self, Bool.toNat_true, Bool.toNat_false, i_bool, i_bool1, Bool.false_eq_true, Bool.true_eq_false, reduceCtorEq, i_neg1, i_neg2, i_neg3, i_neg4, i_neg5, i_neg6, i_neg7, i_neg8, i_neg9, i_nega, i_negb, i_negc, i_max2, i_min2])
            exact pmE (by rw [Nat.sub_eq_zero_of_le hle]) h
          · try simp (disch := omega) only [no0, no1, nz1, nz2, nz3, nz4, nz5, nz7, nz8, Classical.not_not, bz0, bz1, wi_nil, ld_0, ld_s, isIv_I, isLv_L, isRv_R, true_and, and_true, lset_0, lset_1, lset_s, avw_I, avw_L, avw_R, clr_cons, clr_nil, kst_0, kst_1, kstL_0, kstL_1, addk_I, pA_0, pA_s, pD_0, pD_s, wid_nil, wid_cons, rcv_c, putv_I, putv_L, List.length_cons, List.length_nil, List.set_cons_zero, List.set_cons_succ, not_false_eq_true, Nat.reduceMod, Nat.reduceDiv, Nat.reduceEqDiff, Nat.reduceLT, Nat.reduceLeDiff, Nat.reduceAdd, Nat.reduceSub, reduceIte, Nat.lt_irrefl, Nat.zero_ne_one, Nat.one_ne_zero, Nat.zero_add, List.nil_append, List.cons_append, Option.toList_some, Option.toList_none, forall_const, false_implies, true_implies, false_or, or_false, true_or, or_true, i_le, i_lt, i_eq, i_eq0, i_lt0, i_0le, i_0lt, i_le0, i_in1, i_cl, nI_add, pk_mul, pk_sub, i_div, i_rem, i_sh1, i_bit, i_or, i_and, i_andn, nt_le, nf_le, nt_lt, nf_lt, nt_eq, nf_eq, not_true_eq_false, and_self, and_false, false_and, eq_self, Bool.toNat_true, Bool.toNat_false, i_bool, i_bool1, Bool.false_eq_true, Bool.true_eq_false, reduceCtorEq, i_neg1, i_neg2, i_neg3, i_neg4, i_neg5, i_neg6, i_neg7, i_neg8, i_neg9, i_nega, i_negb, i_negc, i_max2, i_min2, wi_nil]
            repeat (
              first
              | refine s_X9_mark_0 ?_
              | refine s_X9_mark_5 ?_
              | refine s_X9_mark_14 ?_
              | refine s_X9_mark_17 ?_
              | refine s_X9_mark_19 ?_
              | refine s_X9_mark_41 ?_
              | refine s_X9_mark_51 ?_
              | refine s_X9_mark_56 ?_
              | refine s_X9_mark_57 ?_
              | refine s_X9_mark_66 ?_
              | refine s_X9_mark_100 ?_
              | refine s_X9_mark_113 ?_
              | refine s_X9_mark_121 ?_
              | refine s_X9_mark_123 ?_
              | refine s_X9_mark_129 ?_
              | refine s_X9_mark_140 ?_
              | refine s_X9_mark_146 ?_
              | refine s_X9_mark_147 ?_
              | refine s_X9_mark_148 ?_
              | refine s_X9_mark_154 ?_
              | refine s_X9_mark_158 ?_
              | refine s_X9_mark_174 ?_
              | refine s_X9_mark_175 ?_
              simp (disch := omega) only [B_X9_mark_0, wi_aload_n, wi_iload_n, wi_invokevirtual, cnt_8, B_X9_mark_5, wi_if_eq, wi_iconst, wi_invokestatic, B_X9_mark_14, wi_if_ne, B_X9_mark_17, wi_ireturn, B_X9_mark_19, wi_getfield, fldv_8_11, fds_8_11, wi_iaload, wi_istore_n, wi_icmp_eq, wi_icmp_ne, cnt_36, aTy_36, aLn_36, arr_36, cnt_40, aTy_40, aLn_40, arr_40, B_X9_mark_41, B_X9_mark_51, B_X9_mark_56, B_X9_mark_57, fldv_8_20, fds_8_20, B_X9_mark_66, wi_istore, wi_tsw, B_X9_mark_100, wi_irem, wi_isub, B_X9_mark_113, wi_iload, B_X9_mark_121, B_X9_mark_123, B_X9_mark_129, wi_icmp_le, B_X9_mark_140, wi_goto, B_X9_mark_146, B_X9_mark_147, B_X9_mark_148, B_X9_mark_154, B_X9_mark_158, wi_bipush, wi_iadd, B_X9_mark_174, B_X9_mark_175, no0, no1, nz1, nz2, nz3, nz4, nz5, nz7, nz8, Classical.not_not, bz0, bz1, wi_nil, ld_0, ld_s, isIv_I, isLv_L, isRv_R, true_and, and_true, lset_0, lset_1, lset_s, avw_I, avw_L, avw_R, clr_cons, clr_nil, kst_0, kst_1, kstL_0, kstL_1, addk_I, pA_0, pA_s, pD_0, pD_s, wid_nil, wid_cons, rcv_c, putv_I, putv_L, List.length_cons, List.length_nil, List.set_cons_zero, List.set_cons_succ, not_false_eq_true, Nat.reduceMod, Nat.reduceDiv, Nat.reduceEqDiff, Nat.reduceLT, Nat.reduceLeDiff, Nat.reduceAdd, Nat.reduceSub, reduceIte, Nat.lt_irrefl, Nat.zero_ne_one, Nat.one_ne_zero, Nat.zero_add, List.nil_append, List.cons_append, Option.toList_some, Option.toList_none, forall_const, false_implies, true_implies, false_or, or_false, true_or, or_true, i_le, i_lt, i_eq, i_eq0, i_lt0, i_0le, i_0lt, i_le0, i_in1, i_cl, nI_add, pk_mul, pk_sub, i_div, i_rem, i_sh1, i_bit, i_or, i_and, i_andn, nt_le, nf_le, nt_lt, nf_lt, nt_eq, nf_eq, not_true_eq_false, and_self, and_false, false_and, eq_self, Bool.toNat_true, Bool.toNat_false, i_bool, i_bool1, Bool.false_eq_true, Bool.true_eq_false, reduceCtorEq, i_neg1, i_neg2, i_neg3, i_neg4, i_neg5, i_neg6, i_neg7, i_neg8, i_neg9, i_nega, i_negb, i_negc, i_max2, i_min2])
            refine c_asKind hm hok (by decide) hi2 (by decide) ?_
            try simp (disch := omega) only [no0, no1, nz1, nz2, nz3, nz4, nz5, nz7, nz8, Classical.not_not, bz0, bz1, wi_nil, ld_0, ld_s, isIv_I, isLv_L, isRv_R, true_and, and_true, lset_0, lset_1, lset_s, avw_I, avw_L, avw_R, clr_cons, clr_nil, kst_0, kst_1, kstL_0, kstL_1, addk_I, pA_0, pA_s, pD_0, pD_s, wid_nil, wid_cons, rcv_c, putv_I, putv_L, List.length_cons, List.length_nil, List.set_cons_zero, List.set_cons_succ, not_false_eq_true, Nat.reduceMod, Nat.reduceDiv, Nat.reduceEqDiff, Nat.reduceLT, Nat.reduceLeDiff, Nat.reduceAdd, Nat.reduceSub, reduceIte, Nat.lt_irrefl, Nat.zero_ne_one, Nat.one_ne_zero, Nat.zero_add, List.nil_append, List.cons_append, Option.toList_some, Option.toList_none, forall_const, false_implies, true_implies, false_or, or_false, true_or, or_true, i_le, i_lt, i_eq, i_eq0, i_lt0, i_0le, i_0lt, i_le0, i_in1, i_cl, nI_add, pk_mul, pk_sub, i_div, i_rem, i_sh1, i_bit, i_or, i_and, i_andn, nt_le, nf_le, nt_lt, nf_lt, nt_eq, nf_eq, not_true_eq_false, and_self, and_false, false_and, eq_self, Bool.toNat_true, Bool.toNat_false, i_bool, i_bool1, Bool.false_eq_true, Bool.true_eq_false, reduceCtorEq, i_neg1, i_neg2, i_neg3, i_neg4, i_neg5, i_neg6, i_neg7, i_neg8, i_neg9, i_nega, i_negb, i_negc, i_max2, i_min2, wi_nil]
            repeat (
              first
              | refine s_X9_mark_0 ?_
              | refine s_X9_mark_5 ?_
              | refine s_X9_mark_14 ?_
              | refine s_X9_mark_17 ?_
              | refine s_X9_mark_19 ?_
              | refine s_X9_mark_41 ?_
              | refine s_X9_mark_51 ?_
              | refine s_X9_mark_56 ?_
              | refine s_X9_mark_57 ?_
              | refine s_X9_mark_66 ?_
              | refine s_X9_mark_100 ?_
              | refine s_X9_mark_113 ?_
              | refine s_X9_mark_121 ?_
              | refine s_X9_mark_123 ?_
              | refine s_X9_mark_129 ?_
              | refine s_X9_mark_140 ?_
              | refine s_X9_mark_146 ?_
              | refine s_X9_mark_147 ?_
              | refine s_X9_mark_148 ?_
              | refine s_X9_mark_154 ?_
              | refine s_X9_mark_158 ?_
              | refine s_X9_mark_174 ?_
              | refine s_X9_mark_175 ?_
              simp (disch := omega) only [B_X9_mark_0, wi_aload_n, wi_iload_n, wi_invokevirtual, cnt_8, B_X9_mark_5, wi_if_eq, wi_iconst, wi_invokestatic, B_X9_mark_14, wi_if_ne, B_X9_mark_17, wi_ireturn, B_X9_mark_19, wi_getfield, fldv_8_11, fds_8_11, wi_iaload, wi_istore_n, wi_icmp_eq, wi_icmp_ne, cnt_36, aTy_36, aLn_36, arr_36, cnt_40, aTy_40, aLn_40, arr_40, B_X9_mark_41, B_X9_mark_51, B_X9_mark_56, B_X9_mark_57, fldv_8_20, fds_8_20, B_X9_mark_66, wi_istore, wi_tsw, B_X9_mark_100, wi_irem, wi_isub, B_X9_mark_113, wi_iload, B_X9_mark_121, B_X9_mark_123, B_X9_mark_129, wi_icmp_le, B_X9_mark_140, wi_goto, B_X9_mark_146, B_X9_mark_147, B_X9_mark_148, B_X9_mark_154, B_X9_mark_158, wi_bipush, wi_iadd, B_X9_mark_174, B_X9_mark_175, no0, no1, nz1, nz2, nz3, nz4, nz5, nz7, nz8, Classical.not_not, bz0, bz1, wi_nil, ld_0, ld_s, isIv_I, isLv_L, isRv_R, true_and, and_true, lset_0, lset_1, lset_s, avw_I, avw_L, avw_R, clr_cons, clr_nil, kst_0, kst_1, kstL_0, kstL_1, addk_I, pA_0, pA_s, pD_0, pD_s, wid_nil, wid_cons, rcv_c, putv_I, putv_L, List.length_cons, List.length_nil, List.set_cons_zero, List.set_cons_succ, not_false_eq_true, Nat.reduceMod, Nat.reduceDiv, Nat.reduceEqDiff, Nat.reduceLT, Nat.reduceLeDiff, Nat.reduceAdd, Nat.reduceSub, reduceIte, Nat.lt_irrefl, Nat.zero_ne_one, Nat.one_ne_zero, Nat.zero_add, List.nil_append, List.cons_append, Option.toList_some, Option.toList_none, forall_const, false_implies, true_implies, false_or, or_false, true_or, or_true, i_le, i_lt, i_eq, i_eq0, i_lt0, i_0le, i_0lt, i_le0, i_in1, i_cl, nI_add, pk_mul, pk_sub, i_div, i_rem, i_sh1, i_bit, i_or, i_and, i_andn, nt_le, nf_le, nt_lt, nf_lt, nt_eq, nf_eq, not_true_eq_false, and_self, and_false, false_and, eq_self, Bool.toNat_true, Bool.toNat_false, i_bool, i_bool1, Bool.false_eq_true, Bool.true_eq_false, reduceCtorEq, i_neg1, i_neg2, i_neg3, i_neg4, i_neg5, i_neg6, i_neg7, i_neg8, i_neg9, i_nega, i_negb, i_negc, i_max2, i_min2])
            exact pm h
        · rw [show swt 52 107 1 4 #[32, 46, 65, 88] (nI 4) = 140 from by decide +kernel]
          try simp (disch := omega) only [no0, no1, nz1, nz2, nz3, nz4, nz5, nz7, nz8, Classical.not_not, bz0, bz1, wi_nil, ld_0, ld_s, isIv_I, isLv_L, isRv_R, true_and, and_true, lset_0, lset_1, lset_s, avw_I, avw_L, avw_R, clr_cons, clr_nil, kst_0, kst_1, kstL_0, kstL_1, addk_I, pA_0, pA_s, pD_0, pD_s, wid_nil, wid_cons, rcv_c, putv_I, putv_L, List.length_cons, List.length_nil, List.set_cons_zero, List.set_cons_succ, not_false_eq_true, Nat.reduceMod, Nat.reduceDiv, Nat.reduceEqDiff, Nat.reduceLT, Nat.reduceLeDiff, Nat.reduceAdd, Nat.reduceSub, reduceIte, Nat.lt_irrefl, Nat.zero_ne_one, Nat.one_ne_zero, Nat.zero_add, List.nil_append, List.cons_append, Option.toList_some, Option.toList_none, forall_const, false_implies, true_implies, false_or, or_false, true_or, or_true, i_le, i_lt, i_eq, i_eq0, i_lt0, i_0le, i_0lt, i_le0, i_in1, i_cl, nI_add, pk_mul, pk_sub, i_div, i_rem, i_sh1, i_bit, i_or, i_and, i_andn, nt_le, nf_le, nt_lt, nf_lt, nt_eq, nf_eq, not_true_eq_false, and_self, and_false, false_and, eq_self, Bool.toNat_true, Bool.toNat_false, i_bool, i_bool1, Bool.false_eq_true, Bool.true_eq_false, reduceCtorEq, i_neg1, i_neg2, i_neg3, i_neg4, i_neg5, i_neg6, i_neg7, i_neg8, i_neg9, i_nega, i_negb, i_negc, i_max2, i_min2, (y_day hy), wi_nil]
          repeat (
            first
            | refine s_X8_mark_0 ?_
            | refine s_X8_mark_5 ?_
            | refine s_X8_mark_18 ?_
            | refine s_X8_mark_20 ?_
            | refine s_X8_mark_33 ?_
            | refine s_X8_mark_41 ?_
            | refine s_X8_mark_42 ?_
            | refine s_X8_mark_50 ?_
            | refine s_X8_mark_84 ?_
            | refine s_X8_mark_98 ?_
            | refine s_X8_mark_115 ?_
            | refine s_X8_mark_117 ?_
            | refine s_X8_mark_134 ?_
            | refine s_X8_mark_140 ?_
            | refine s_X8_mark_156 ?_
            | refine s_X8_mark_159 ?_
            | refine s_X8_mark_175 ?_
            | refine s_X8_mark_176 ?_
            simp (disch := omega) only [B_X8_mark_0, wi_aload_n, wi_iload_n, wi_invokevirtual, cnt_7, B_X8_mark_5, wi_if_eq, wi_if_le, wi_bipush, wi_icmp_lt, B_X8_mark_18, wi_iconst, wi_ireturn, B_X8_mark_20, wi_getfield, fldv_7_3, fds_7_3, fldv_6_0, fds_6_0, cnt_6, wi_iaload, wi_invokestatic, cnt_20, aTy_20, aLn_20, arr_20, cnt_24, aTy_24, aLn_24, arr_24, B_X8_mark_33, wi_if_ne, B_X8_mark_41, B_X8_mark_42, B_X8_mark_50, wi_istore_n, wi_tsw, B_X8_mark_84, fldv_6_8, fds_6_8, wi_irem, wi_isub, B_X8_mark_98, B_X8_mark_115, B_X8_mark_117, B_X8_mark_134, wi_max, B_X8_mark_140, B_X8_mark_156, B_X8_mark_159, fldv_6_4, fds_6_4, wi_goto, B_X8_mark_175, B_X8_mark_176, no0, no1, nz1, nz2, nz3, nz4, nz5, nz7, nz8, Classical.not_not, bz0, bz1, wi_nil, ld_0, ld_s, isIv_I, isLv_L, isRv_R, true_and, and_true, lset_0, lset_1, lset_s, avw_I, avw_L, avw_R, clr_cons, clr_nil, kst_0, kst_1, kstL_0, kstL_1, addk_I, pA_0, pA_s, pD_0, pD_s, wid_nil, wid_cons, rcv_c, putv_I, putv_L, List.length_cons, List.length_nil, List.set_cons_zero, List.set_cons_succ, not_false_eq_true, Nat.reduceMod, Nat.reduceDiv, Nat.reduceEqDiff, Nat.reduceLT, Nat.reduceLeDiff, Nat.reduceAdd, Nat.reduceSub, reduceIte, Nat.lt_irrefl, Nat.zero_ne_one, Nat.one_ne_zero, Nat.zero_add, List.nil_append, List.cons_append, Option.toList_some, Option.toList_none, forall_const, false_implies, true_implies, false_or, or_false, true_or, or_true, i_le, i_lt, i_eq, i_eq0, i_lt0, i_0le, i_0lt, i_le0, i_in1, i_cl, nI_add, pk_mul, pk_sub, i_div, i_rem, i_sh1, i_bit, i_or, i_and, i_andn, nt_le, nf_le, nt_lt, nf_lt, nt_eq, nf_eq, not_true_eq_false, and_self, and_false, false_and, eq_self, Bool.toNat_true, Bool.toNat_false, i_bool, i_bool1, Bool.false_eq_true, Bool.true_eq_false, reduceCtorEq, i_neg1, i_neg2, i_neg3, i_neg4, i_neg5, i_neg6, i_neg7, i_neg8, i_neg9, i_nega, i_negb, i_negc, i_max2, i_min2, (y_day hy)])
          refine c_priceAs (by decide) hy hok (by decide) (by omega) hi2 (by decide) (by omega) ?_
          refine s_X8_mark_156 ?_
          simp only [B_X8_mark_156, wi_iload_n, wi_isub, wi_ireturn, no0, no1, nz1, nz2, nz3, nz4, nz5, nz7, nz8, Classical.not_not, bz0, bz1, wi_nil, ld_0, ld_s, isIv_I, isLv_L, isRv_R, true_and, and_true, lset_0, lset_1, lset_s, avw_I, avw_L, avw_R, clr_cons, clr_nil, kst_0, kst_1, kstL_0, kstL_1, addk_I, pA_0, pA_s, pD_0, pD_s, wid_nil, wid_cons, rcv_c, putv_I, putv_L, List.length_cons, List.length_nil, List.set_cons_zero, List.set_cons_succ, not_false_eq_true, Nat.reduceMod, Nat.reduceDiv, Nat.reduceEqDiff, Nat.reduceLT, Nat.reduceLeDiff, Nat.reduceAdd, Nat.reduceSub, reduceIte, Nat.lt_irrefl, Nat.zero_ne_one, Nat.one_ne_zero, Nat.zero_add, List.nil_append, List.cons_append, Option.toList_some, Option.toList_none, forall_const, false_implies, true_implies, false_or, or_false, true_or, or_true]
          refine px (toM _ (m69 _ (fun v hv => ?_)))
          subst hv
          refine s_X9_mark_66 ?_
          simp (disch := omega) only [B_X9_mark_66, wi_istore, wi_iload_n, wi_tsw, no0, no1, nz1, nz2, nz3, nz4, nz5, nz7, nz8, Classical.not_not, bz0, bz1, wi_nil, ld_0, ld_s, isIv_I, isLv_L, isRv_R, true_and, and_true, lset_0, lset_1, lset_s, avw_I, avw_L, avw_R, clr_cons, clr_nil, kst_0, kst_1, kstL_0, kstL_1, addk_I, pA_0, pA_s, pD_0, pD_s, wid_nil, wid_cons, rcv_c, putv_I, putv_L, List.length_cons, List.length_nil, List.set_cons_zero, List.set_cons_succ, not_false_eq_true, Nat.reduceMod, Nat.reduceDiv, Nat.reduceEqDiff, Nat.reduceLT, Nat.reduceLeDiff, Nat.reduceAdd, Nat.reduceSub, reduceIte, Nat.lt_irrefl, Nat.zero_ne_one, Nat.one_ne_zero, Nat.zero_add, List.nil_append, List.cons_append, Option.toList_some, Option.toList_none, forall_const, false_implies, true_implies, false_or, or_false, true_or, or_true, i_le, i_lt, i_eq, i_eq0, i_lt0, i_0le, i_0lt, i_le0, i_in1, i_cl, nI_add, pk_mul, pk_sub, i_div, i_rem, i_sh1, i_bit, i_or, i_and, i_andn, nt_le, nf_le, nt_lt, nf_lt, nt_eq, nf_eq, not_true_eq_false, and_self, and_false, false_and, eq_self, Bool.toNat_true, Bool.toNat_false, i_bool, i_bool1, Bool.false_eq_true, Bool.true_eq_false, reduceCtorEq, i_neg1, i_neg2, i_neg3, i_neg4, i_neg5, i_neg6, i_neg7, i_neg8, i_neg9, i_nega, i_negb, i_negc, i_max2, i_min2]
          rw [show swt 69 89 1 4 #[31, 44, 54, 79] (nI 4) = 148 from by decide +kernel]
          try simp (disch := omega) only [no0, no1, nz1, nz2, nz3, nz4, nz5, nz7, nz8, Classical.not_not, bz0, bz1, wi_nil, ld_0, ld_s, isIv_I, isLv_L, isRv_R, true_and, and_true, lset_0, lset_1, lset_s, avw_I, avw_L, avw_R, clr_cons, clr_nil, kst_0, kst_1, kstL_0, kstL_1, addk_I, pA_0, pA_s, pD_0, pD_s, wid_nil, wid_cons, rcv_c, putv_I, putv_L, List.length_cons, List.length_nil, List.set_cons_zero, List.set_cons_succ, not_false_eq_true, Nat.reduceMod, Nat.reduceDiv, Nat.reduceEqDiff, Nat.reduceLT, Nat.reduceLeDiff, Nat.reduceAdd, Nat.reduceSub, reduceIte, Nat.lt_irrefl, Nat.zero_ne_one, Nat.one_ne_zero, Nat.zero_add, List.nil_append, List.cons_append, Option.toList_some, Option.toList_none, forall_const, false_implies, true_implies, false_or, or_false, true_or, or_true, i_le, i_lt, i_eq, i_eq0, i_lt0, i_0le, i_0lt, i_le0, i_in1, i_cl, nI_add, pk_mul, pk_sub, i_div, i_rem, i_sh1, i_bit, i_or, i_and, i_andn, nt_le, nf_le, nt_lt, nf_lt, nt_eq, nf_eq, not_true_eq_false, and_self, and_false, false_and, eq_self, Bool.toNat_true, Bool.toNat_false, i_bool, i_bool1, Bool.false_eq_true, Bool.true_eq_false, reduceCtorEq, i_neg1, i_neg2, i_neg3, i_neg4, i_neg5, i_neg6, i_neg7, i_neg8, i_neg9, i_nega, i_negb, i_negc, i_max2, i_min2, wi_nil]
          repeat (
            first
            | refine s_X9_mark_0 ?_
            | refine s_X9_mark_5 ?_
            | refine s_X9_mark_14 ?_
            | refine s_X9_mark_17 ?_
            | refine s_X9_mark_19 ?_
            | refine s_X9_mark_41 ?_
            | refine s_X9_mark_51 ?_
            | refine s_X9_mark_56 ?_
            | refine s_X9_mark_57 ?_
            | refine s_X9_mark_66 ?_
            | refine s_X9_mark_100 ?_
            | refine s_X9_mark_113 ?_
            | refine s_X9_mark_121 ?_
            | refine s_X9_mark_123 ?_
            | refine s_X9_mark_129 ?_
            | refine s_X9_mark_140 ?_
            | refine s_X9_mark_146 ?_
            | refine s_X9_mark_147 ?_
            | refine s_X9_mark_148 ?_
            | refine s_X9_mark_154 ?_
            | refine s_X9_mark_158 ?_
            | refine s_X9_mark_174 ?_
            | refine s_X9_mark_175 ?_
            simp (disch := omega) only [B_X9_mark_0, wi_aload_n, wi_iload_n, wi_invokevirtual, cnt_8, B_X9_mark_5, wi_if_eq, wi_iconst, wi_invokestatic, B_X9_mark_14, wi_if_ne, B_X9_mark_17, wi_ireturn, B_X9_mark_19, wi_getfield, fldv_8_11, fds_8_11, wi_iaload, wi_istore_n, wi_icmp_eq, wi_icmp_ne, cnt_36, aTy_36, aLn_36, arr_36, cnt_40, aTy_40, aLn_40, arr_40, B_X9_mark_41, B_X9_mark_51, B_X9_mark_56, B_X9_mark_57, fldv_8_20, fds_8_20, B_X9_mark_66, wi_istore, wi_tsw, B_X9_mark_100, wi_irem, wi_isub, B_X9_mark_113, wi_iload, B_X9_mark_121, B_X9_mark_123, B_X9_mark_129, wi_icmp_le, B_X9_mark_140, wi_goto, B_X9_mark_146, B_X9_mark_147, B_X9_mark_148, B_X9_mark_154, B_X9_mark_158, wi_bipush, wi_iadd, B_X9_mark_174, B_X9_mark_175, no0, no1, nz1, nz2, nz3, nz4, nz5, nz7, nz8, Classical.not_not, bz0, bz1, wi_nil, ld_0, ld_s, isIv_I, isLv_L, isRv_R, true_and, and_true, lset_0, lset_1, lset_s, avw_I, avw_L, avw_R, clr_cons, clr_nil, kst_0, kst_1, kstL_0, kstL_1, addk_I, pA_0, pA_s, pD_0, pD_s, wid_nil, wid_cons, rcv_c, putv_I, putv_L, List.length_cons, List.length_nil, List.set_cons_zero, List.set_cons_succ, not_false_eq_true, Nat.reduceMod, Nat.reduceDiv, Nat.reduceEqDiff, Nat.reduceLT, Nat.reduceLeDiff, Nat.reduceAdd, Nat.reduceSub, reduceIte, Nat.lt_irrefl, Nat.zero_ne_one, Nat.one_ne_zero, Nat.zero_add, List.nil_append, List.cons_append, Option.toList_some, Option.toList_none, forall_const, false_implies, true_implies, false_or, or_false, true_or, or_true, i_le, i_lt, i_eq, i_eq0, i_lt0, i_0le, i_0lt, i_le0, i_in1, i_cl, nI_add, pk_mul, pk_sub, i_div, i_rem, i_sh1, i_bit, i_or, i_and, i_andn, nt_le, nf_le, nt_lt, nf_lt, nt_eq, nf_eq, not_true_eq_false, and_self, and_false, false_and, eq_self, Bool.toNat_true, Bool.toNat_false, i_bool, i_bool1, Bool.false_eq_true, Bool.true_eq_false, reduceCtorEq, i_neg1, i_neg2, i_neg3, i_neg4, i_neg5, i_neg6, i_neg7, i_neg8, i_neg9, i_nega, i_negb, i_negc, i_max2, i_min2])
          refine c_asKind hm hok (by decide) hi2 (by decide) ?_
          refine s_X9_mark_154 ?_
          simp only [B_X9_mark_154, wi_iload, wi_isub, wi_ireturn, no0, no1, nz1, nz2, nz3, nz4, nz5, nz7, nz8, Classical.not_not, bz0, bz1, wi_nil, ld_0, ld_s, isIv_I, isLv_L, isRv_R, true_and, and_true, lset_0, lset_1, lset_s, avw_I, avw_L, avw_R, clr_cons, clr_nil, kst_0, kst_1, kstL_0, kstL_1, addk_I, pA_0, pA_s, pD_0, pD_s, wid_nil, wid_cons, rcv_c, putv_I, putv_L, List.length_cons, List.length_nil, List.set_cons_zero, List.set_cons_succ, not_false_eq_true, Nat.reduceMod, Nat.reduceDiv, Nat.reduceEqDiff, Nat.reduceLT, Nat.reduceLeDiff, Nat.reduceAdd, Nat.reduceSub, reduceIte, Nat.lt_irrefl, Nat.zero_ne_one, Nat.one_ne_zero, Nat.zero_add, List.nil_append, List.cons_append, Option.toList_some, Option.toList_none, forall_const, false_implies, true_implies, false_or, or_false, true_or, or_true]
          exact pm h
        · rw [show swt 52 107 1 4 #[32, 46, 65, 88] (nI 5) = 159 from by decide +kernel]
          rcases Nat.eq_zero_or_pos (Y 4 i) with z | z
          · try simp (disch := omega) only [no0, no1, nz1, nz2, nz3, nz4, nz5, nz7, nz8, Classical.not_not, bz0, bz1, wi_nil, ld_0, ld_s, isIv_I, isLv_L, isRv_R, true_and, and_true, lset_0, lset_1, lset_s, avw_I, avw_L, avw_R, clr_cons, clr_nil, kst_0, kst_1, kstL_0, kstL_1, addk_I, pA_0, pA_s, pD_0, pD_s, wid_nil, wid_cons, rcv_c, putv_I, putv_L, List.length_cons, List.length_nil, List.set_cons_zero, List.set_cons_succ, not_false_eq_true, Nat.reduceMod, Nat.reduceDiv, Nat.reduceEqDiff, Nat.reduceLT, Nat.reduceLeDiff, Nat.reduceAdd, Nat.reduceSub, reduceIte, Nat.lt_irrefl, Nat.zero_ne_one, Nat.one_ne_zero, Nat.zero_add, List.nil_append, List.cons_append, Option.toList_some, Option.toList_none, forall_const, false_implies, true_implies, false_or, or_false, true_or, or_true, i_le, i_lt, i_eq, i_eq0, i_lt0, i_0le, i_0lt, i_le0, i_in1, i_cl, nI_add, pk_mul, pk_sub, i_div, i_rem, i_sh1, i_bit, i_or, i_and, i_andn, nt_le, nf_le, nt_lt, nf_lt, nt_eq, nf_eq, not_true_eq_false, and_self, and_false, false_and, eq_self, Bool.toNat_true, Bool.toNat_false, i_bool, i_bool1, Bool.false_eq_true, Bool.true_eq_false, reduceCtorEq, i_neg1, i_neg2, i_neg3, i_neg4, i_neg5, i_neg6, i_neg7, i_neg8, i_neg9, i_nega, i_negb, i_negc, i_max2, i_min2, (y_ch hy), wi_nil]
            repeat (
              first
              | refine s_X8_mark_0 ?_
              | refine s_X8_mark_5 ?_
              | refine s_X8_mark_18 ?_
              | refine s_X8_mark_20 ?_
              | refine s_X8_mark_33 ?_
              | refine s_X8_mark_41 ?_
              | refine s_X8_mark_42 ?_
              | refine s_X8_mark_50 ?_
              | refine s_X8_mark_84 ?_
              | refine s_X8_mark_98 ?_
              | refine s_X8_mark_115 ?_
              | refine s_X8_mark_117 ?_
              | refine s_X8_mark_134 ?_
              | refine s_X8_mark_140 ?_
              | refine s_X8_mark_156 ?_
              | refine s_X8_mark_159 ?_
              | refine s_X8_mark_175 ?_
              | refine s_X8_mark_176 ?_
              simp (disch := omega) only [B_X8_mark_0, wi_aload_n, wi_iload_n, wi_invokevirtual, cnt_7, B_X8_mark_5, wi_if_eq, wi_if_le, wi_bipush, wi_icmp_lt, B_X8_mark_18, wi_iconst, wi_ireturn, B_X8_mark_20, wi_getfield, fldv_7_3, fds_7_3, fldv_6_0, fds_6_0, cnt_6, wi_iaload, wi_invokestatic, cnt_20, aTy_20, aLn_20, arr_20, cnt_24, aTy_24, aLn_24, arr_24, B_X8_mark_33, wi_if_ne, B_X8_mark_41, B_X8_mark_42, B_X8_mark_50, wi_istore_n, wi_tsw, B_X8_mark_84, fldv_6_8, fds_6_8, wi_irem, wi_isub, B_X8_mark_98, B_X8_mark_115, B_X8_mark_117, B_X8_mark_134, wi_max, B_X8_mark_140, B_X8_mark_156, B_X8_mark_159, fldv_6_4, fds_6_4, wi_goto, B_X8_mark_175, B_X8_mark_176, no0, no1, nz1, nz2, nz3, nz4, nz5, nz7, nz8, Classical.not_not, bz0, bz1, wi_nil, ld_0, ld_s, isIv_I, isLv_L, isRv_R, true_and, and_true, lset_0, lset_1, lset_s, avw_I, avw_L, avw_R, clr_cons, clr_nil, kst_0, kst_1, kstL_0, kstL_1, addk_I, pA_0, pA_s, pD_0, pD_s, wid_nil, wid_cons, rcv_c, putv_I, putv_L, List.length_cons, List.length_nil, List.set_cons_zero, List.set_cons_succ, not_false_eq_true, Nat.reduceMod, Nat.reduceDiv, Nat.reduceEqDiff, Nat.reduceLT, Nat.reduceLeDiff, Nat.reduceAdd, Nat.reduceSub, reduceIte, Nat.lt_irrefl, Nat.zero_ne_one, Nat.one_ne_zero, Nat.zero_add, List.nil_append, List.cons_append, Option.toList_some, Option.toList_none, forall_const, false_implies, true_implies, false_or, or_false, true_or, or_true, i_le, i_lt, i_eq, i_eq0, i_lt0, i_0le, i_0lt, i_le0, i_in1, i_cl, nI_add, pk_mul, pk_sub, i_div, i_rem, i_sh1, i_bit, i_or, i_and, i_andn, nt_le, nf_le, nt_lt, nf_lt, nt_eq, nf_eq, not_true_eq_false, and_self, and_false, false_and, eq_self, Bool.toNat_true, Bool.toNat_false, i_bool, i_bool1, Bool.false_eq_true, Bool.true_eq_false, reduceCtorEq, i_neg1, i_neg2, i_neg3, i_neg4, i_neg5, i_neg6, i_neg7, i_neg8, i_neg9, i_nega, i_negb, i_negc, i_max2, i_min2, (y_ch hy)])
            refine px (toM _ (m69 _ (fun v hv => ?_)))
            refine s_X9_mark_66 ?_
            simp (disch := omega) only [B_X9_mark_66, wi_istore, wi_iload_n, wi_tsw, no0, no1, nz1, nz2, nz3, nz4, nz5, nz7, nz8, Classical.not_not, bz0, bz1, wi_nil, ld_0, ld_s, isIv_I, isLv_L, isRv_R, true_and, and_true, lset_0, lset_1, lset_s, avw_I, avw_L, avw_R, clr_cons, clr_nil, kst_0, kst_1, kstL_0, kstL_1, addk_I, pA_0, pA_s, pD_0, pD_s, wid_nil, wid_cons, rcv_c, putv_I, putv_L, List.length_cons, List.length_nil, List.set_cons_zero, List.set_cons_succ, not_false_eq_true, Nat.reduceMod, Nat.reduceDiv, Nat.reduceEqDiff, Nat.reduceLT, Nat.reduceLeDiff, Nat.reduceAdd, Nat.reduceSub, reduceIte, Nat.lt_irrefl, Nat.zero_ne_one, Nat.one_ne_zero, Nat.zero_add, List.nil_append, List.cons_append, Option.toList_some, Option.toList_none, forall_const, false_implies, true_implies, false_or, or_false, true_or, or_true, i_le, i_lt, i_eq, i_eq0, i_lt0, i_0le, i_0lt, i_le0, i_in1, i_cl, nI_add, pk_mul, pk_sub, i_div, i_rem, i_sh1, i_bit, i_or, i_and, i_andn, nt_le, nf_le, nt_lt, nf_lt, nt_eq, nf_eq, not_true_eq_false, and_self, and_false, false_and, eq_self, Bool.toNat_true, Bool.toNat_false, i_bool, i_bool1, Bool.false_eq_true, Bool.true_eq_false, reduceCtorEq, i_neg1, i_neg2, i_neg3, i_neg4, i_neg5, i_neg6, i_neg7, i_neg8, i_neg9, i_nega, i_negb, i_negc, i_max2, i_min2]
            rw [show swt 69 89 1 4 #[31, 44, 54, 79] (nI 5) = 158 from by decide +kernel]
            try simp (disch := omega) only [no0, no1, nz1, nz2, nz3, nz4, nz5, nz7, nz8, Classical.not_not, bz0, bz1, wi_nil, ld_0, ld_s, isIv_I, isLv_L, isRv_R, true_and, and_true, lset_0, lset_1, lset_s, avw_I, avw_L, avw_R, clr_cons, clr_nil, kst_0, kst_1, kstL_0, kstL_1, addk_I, pA_0, pA_s, pD_0, pD_s, wid_nil, wid_cons, rcv_c, putv_I, putv_L, List.length_cons, List.length_nil, List.set_cons_zero, List.set_cons_succ, not_false_eq_true, Nat.reduceMod, Nat.reduceDiv, Nat.reduceEqDiff, Nat.reduceLT, Nat.reduceLeDiff, Nat.reduceAdd, Nat.reduceSub, reduceIte, Nat.lt_irrefl, Nat.zero_ne_one, Nat.one_ne_zero, Nat.zero_add, List.nil_append, List.cons_append, Option.toList_some, Option.toList_none, forall_const, false_implies, true_implies, false_or, or_false, true_or, or_true, i_le, i_lt, i_eq, i_eq0, i_lt0, i_0le, i_0lt, i_le0, i_in1, i_cl, nI_add, pk_mul, pk_sub, i_div, i_rem, i_sh1, i_bit, i_or, i_and, i_andn, nt_le, nf_le, nt_lt, nf_lt, nt_eq, nf_eq, not_true_eq_false, and_self, and_false, false_and, eq_self, Bool.toNat_true, Bool.toNat_false, i_bool, i_bool1, Bool.false_eq_true, Bool.true_eq_false, reduceCtorEq, i_neg1, i_neg2, i_neg3, i_neg4, i_neg5, i_neg6, i_neg7, i_neg8, i_neg9, i_nega, i_negb, i_negc, i_max2, i_min2, (m_ch hm), wi_nil]
            repeat (
              first
              | refine s_X9_mark_0 ?_
              | refine s_X9_mark_5 ?_
              | refine s_X9_mark_14 ?_
              | refine s_X9_mark_17 ?_
              | refine s_X9_mark_19 ?_
              | refine s_X9_mark_41 ?_
              | refine s_X9_mark_51 ?_
              | refine s_X9_mark_56 ?_
              | refine s_X9_mark_57 ?_
              | refine s_X9_mark_66 ?_
              | refine s_X9_mark_100 ?_
              | refine s_X9_mark_113 ?_
              | refine s_X9_mark_121 ?_
              | refine s_X9_mark_123 ?_
              | refine s_X9_mark_129 ?_
              | refine s_X9_mark_140 ?_
              | refine s_X9_mark_146 ?_
              | refine s_X9_mark_147 ?_
              | refine s_X9_mark_148 ?_
              | refine s_X9_mark_154 ?_
              | refine s_X9_mark_158 ?_
              | refine s_X9_mark_174 ?_
              | refine s_X9_mark_175 ?_
              simp (disch := omega) only [B_X9_mark_0, wi_aload_n, wi_iload_n, wi_invokevirtual, cnt_8, B_X9_mark_5, wi_if_eq, wi_iconst, wi_invokestatic, B_X9_mark_14, wi_if_ne, B_X9_mark_17, wi_ireturn, B_X9_mark_19, wi_getfield, fldv_8_11, fds_8_11, wi_iaload, wi_istore_n, wi_icmp_eq, wi_icmp_ne, cnt_36, aTy_36, aLn_36, arr_36, cnt_40, aTy_40, aLn_40, arr_40, B_X9_mark_41, B_X9_mark_51, B_X9_mark_56, B_X9_mark_57, fldv_8_20, fds_8_20, B_X9_mark_66, wi_istore, wi_tsw, B_X9_mark_100, wi_irem, wi_isub, B_X9_mark_113, wi_iload, B_X9_mark_121, B_X9_mark_123, B_X9_mark_129, wi_icmp_le, B_X9_mark_140, wi_goto, B_X9_mark_146, B_X9_mark_147, B_X9_mark_148, B_X9_mark_154, B_X9_mark_158, wi_bipush, wi_iadd, B_X9_mark_174, B_X9_mark_175, no0, no1, nz1, nz2, nz3, nz4, nz5, nz7, nz8, Classical.not_not, bz0, bz1, wi_nil, ld_0, ld_s, isIv_I, isLv_L, isRv_R, true_and, and_true, lset_0, lset_1, lset_s, avw_I, avw_L, avw_R, clr_cons, clr_nil, kst_0, kst_1, kstL_0, kstL_1, addk_I, pA_0, pA_s, pD_0, pD_s, wid_nil, wid_cons, rcv_c, putv_I, putv_L, List.length_cons, List.length_nil, List.set_cons_zero, List.set_cons_succ, not_false_eq_true, Nat.reduceMod, Nat.reduceDiv, Nat.reduceEqDiff, Nat.reduceLT, Nat.reduceLeDiff, Nat.reduceAdd, Nat.reduceSub, reduceIte, Nat.lt_irrefl, Nat.zero_ne_one, Nat.one_ne_zero, Nat.zero_add, List.nil_append, List.cons_append, Option.toList_some, Option.toList_none, forall_const, false_implies, true_implies, false_or, or_false, true_or, or_true, i_le, i_lt, i_eq, i_eq0, i_lt0, i_0le, i_0lt, i_le0, i_in1, i_cl, nI_add, pk_mul, pk_sub, i_div, i_rem, i_sh1, i_bit, i_or, i_and, i_andn, nt_le, nf_le, nt_lt, nf_lt, nt_eq, nf_eq, not_true_eq_false, and_self, and_false, false_and, eq_self, Bool.toNat_true, Bool.toNat_false, i_bool, i_bool1, Bool.false_eq_true, Bool.true_eq_false, reduceCtorEq, i_neg1, i_neg2, i_neg3, i_neg4, i_neg5, i_neg6, i_neg7, i_neg8, i_neg9, i_nega, i_negb, i_negc, i_max2, i_min2, (m_ch hm)])
            exact pm h
          · try simp (disch := omega) only [no0, no1, nz1, nz2, nz3, nz4, nz5, nz7, nz8, Classical.not_not, bz0, bz1, wi_nil, ld_0, ld_s, isIv_I, isLv_L, isRv_R, true_and, and_true, lset_0, lset_1, lset_s, avw_I, avw_L, avw_R, clr_cons, clr_nil, kst_0, kst_1, kstL_0, kstL_1, addk_I, pA_0, pA_s, pD_0, pD_s, wid_nil, wid_cons, rcv_c, putv_I, putv_L, List.length_cons, List.length_nil, List.set_cons_zero, List.set_cons_succ, not_false_eq_true, Nat.reduceMod, Nat.reduceDiv, Nat.reduceEqDiff, Nat.reduceLT, Nat.reduceLeDiff, Nat.reduceAdd, Nat.reduceSub, reduceIte, Nat.lt_irrefl, Nat.zero_ne_one, Nat.one_ne_zero, Nat.zero_add, List.nil_append, List.cons_append, Option.toList_some, Option.toList_none, forall_const, false_implies, true_implies, false_or, or_false, true_or, or_true, i_le, i_lt, i_eq, i_eq0, i_lt0, i_0le, i_0lt, i_le0, i_in1, i_cl, nI_add, pk_mul, pk_sub, i_div, i_rem, i_sh1, i_bit, i_or, i_and, i_andn, nt_le, nf_le, nt_lt, nf_lt, nt_eq, nf_eq, not_true_eq_false, and_self, and_false, false_and, eq_self, Bool.toNat_true, Bool.toNat_false, i_bool, i_bool1, Bool.false_eq_true, Bool.true_eq_false, reduceCtorEq, i_neg1, i_neg2, i_neg3, i_neg4, i_neg5, i_neg6, i_neg7, i_neg8, i_neg9, i_nega, i_negb, i_negc, i_max2, i_min2, (y_ch hy), wi_nil]
            repeat (
              first
              | refine s_X8_mark_0 ?_
              | refine s_X8_mark_5 ?_
              | refine s_X8_mark_18 ?_
              | refine s_X8_mark_20 ?_
              | refine s_X8_mark_33 ?_
              | refine s_X8_mark_41 ?_
              | refine s_X8_mark_42 ?_
              | refine s_X8_mark_50 ?_
              | refine s_X8_mark_84 ?_
              | refine s_X8_mark_98 ?_
              | refine s_X8_mark_115 ?_
              | refine s_X8_mark_117 ?_
              | refine s_X8_mark_134 ?_
              | refine s_X8_mark_140 ?_
              | refine s_X8_mark_156 ?_
              | refine s_X8_mark_159 ?_
              | refine s_X8_mark_175 ?_
              | refine s_X8_mark_176 ?_
              simp (disch := omega) only [B_X8_mark_0, wi_aload_n, wi_iload_n, wi_invokevirtual, cnt_7, B_X8_mark_5, wi_if_eq, wi_if_le, wi_bipush, wi_icmp_lt, B_X8_mark_18, wi_iconst, wi_ireturn, B_X8_mark_20, wi_getfield, fldv_7_3, fds_7_3, fldv_6_0, fds_6_0, cnt_6, wi_iaload, wi_invokestatic, cnt_20, aTy_20, aLn_20, arr_20, cnt_24, aTy_24, aLn_24, arr_24, B_X8_mark_33, wi_if_ne, B_X8_mark_41, B_X8_mark_42, B_X8_mark_50, wi_istore_n, wi_tsw, B_X8_mark_84, fldv_6_8, fds_6_8, wi_irem, wi_isub, B_X8_mark_98, B_X8_mark_115, B_X8_mark_117, B_X8_mark_134, wi_max, B_X8_mark_140, B_X8_mark_156, B_X8_mark_159, fldv_6_4, fds_6_4, wi_goto, B_X8_mark_175, B_X8_mark_176, no0, no1, nz1, nz2, nz3, nz4, nz5, nz7, nz8, Classical.not_not, bz0, bz1, wi_nil, ld_0, ld_s, isIv_I, isLv_L, isRv_R, true_and, and_true, lset_0, lset_1, lset_s, avw_I, avw_L, avw_R, clr_cons, clr_nil, kst_0, kst_1, kstL_0, kstL_1, addk_I, pA_0, pA_s, pD_0, pD_s, wid_nil, wid_cons, rcv_c, putv_I, putv_L, List.length_cons, List.length_nil, List.set_cons_zero, List.set_cons_succ, not_false_eq_true, Nat.reduceMod, Nat.reduceDiv, Nat.reduceEqDiff, Nat.reduceLT, Nat.reduceLeDiff, Nat.reduceAdd, Nat.reduceSub, reduceIte, Nat.lt_irrefl, Nat.zero_ne_one, Nat.one_ne_zero, Nat.zero_add, List.nil_append, List.cons_append, Option.toList_some, Option.toList_none, forall_const, false_implies, true_implies, false_or, or_false, true_or, or_true, i_le, i_lt, i_eq, i_eq0, i_lt0, i_0le, i_0lt, i_le0, i_in1, i_cl, nI_add, pk_mul, pk_sub, i_div, i_rem, i_sh1, i_bit, i_or, i_and, i_andn, nt_le, nf_le, nt_lt, nf_lt, nt_eq, nf_eq, not_true_eq_false, and_self, and_false, false_and, eq_self, Bool.toNat_true, Bool.toNat_false, i_bool, i_bool1, Bool.false_eq_true, Bool.true_eq_false, reduceCtorEq, i_neg1, i_neg2, i_neg3, i_neg4, i_neg5, i_neg6, i_neg7, i_neg8, i_neg9, i_nega, i_negb, i_negc, i_max2, i_min2, (y_ch hy)])
            refine px (toM _ (m69 _ (fun v hv => ?_)))
            refine s_X9_mark_66 ?_
            simp (disch := omega) only [B_X9_mark_66, wi_istore, wi_iload_n, wi_tsw, no0, no1, nz1, nz2, nz3, nz4, nz5, nz7, nz8, Classical.not_not, bz0, bz1, wi_nil, ld_0, ld_s, isIv_I, isLv_L, isRv_R, true_and, and_true, lset_0, lset_1, lset_s, avw_I, avw_L, avw_R, clr_cons, clr_nil, kst_0, kst_1, kstL_0, kstL_1, addk_I, pA_0, pA_s, pD_0, pD_s, wid_nil, wid_cons, rcv_c, putv_I, putv_L, List.length_cons, List.length_nil, List.set_cons_zero, List.set_cons_succ, not_false_eq_true, Nat.reduceMod, Nat.reduceDiv, Nat.reduceEqDiff, Nat.reduceLT, Nat.reduceLeDiff, Nat.reduceAdd, Nat.reduceSub, reduceIte, Nat.lt_irrefl, Nat.zero_ne_one, Nat.one_ne_zero, Nat.zero_add, List.nil_append, List.cons_append, Option.toList_some, Option.toList_none, forall_const, false_implies, true_implies, false_or, or_false, true_or, or_true, i_le, i_lt, i_eq, i_eq0, i_lt0, i_0le, i_0lt, i_le0, i_in1, i_cl, nI_add, pk_mul, pk_sub, i_div, i_rem, i_sh1, i_bit, i_or, i_and, i_andn, nt_le, nf_le, nt_lt, nf_lt, nt_eq, nf_eq, not_true_eq_false, and_self, and_false, false_and, eq_self, Bool.toNat_true, Bool.toNat_false, i_bool, i_bool1, Bool.false_eq_true, Bool.true_eq_false, reduceCtorEq, i_neg1, i_neg2, i_neg3, i_neg4, i_neg5, i_neg6, i_neg7, i_neg8, i_neg9, i_nega, i_negb, i_negc, i_max2, i_min2]
            rw [show swt 69 89 1 4 #[31, 44, 54, 79] (nI 5) = 158 from by decide +kernel]
            try simp (disch := omega) only [no0, no1, nz1, nz2, nz3, nz4, nz5, nz7, nz8, Classical.not_not, bz0, bz1, wi_nil, ld_0, ld_s, isIv_I, isLv_L, isRv_R, true_and, and_true, lset_0, lset_1, lset_s, avw_I, avw_L, avw_R, clr_cons, clr_nil, kst_0, kst_1, kstL_0, kstL_1, addk_I, pA_0, pA_s, pD_0, pD_s, wid_nil, wid_cons, rcv_c, putv_I, putv_L, List.length_cons, List.length_nil, List.set_cons_zero, List.set_cons_succ, not_false_eq_true, Nat.reduceMod, Nat.reduceDiv, Nat.reduceEqDiff, Nat.reduceLT, Nat.reduceLeDiff, Nat.reduceAdd, Nat.reduceSub, reduceIte, Nat.lt_irrefl, Nat.zero_ne_one, Nat.one_ne_zero, Nat.zero_add, List.nil_append, List.cons_append, Option.toList_some, Option.toList_none, forall_const, false_implies, true_implies, false_or, or_false, true_or, or_true, i_le, i_lt, i_eq, i_eq0, i_lt0, i_0le, i_0lt, i_le0, i_in1, i_cl, nI_add, pk_mul, pk_sub, i_div, i_rem, i_sh1, i_bit, i_or, i_and, i_andn, nt_le, nf_le, nt_lt, nf_lt, nt_eq, nf_eq, not_true_eq_false, and_self, and_false, false_and, eq_self, Bool.toNat_true, Bool.toNat_false, i_bool, i_bool1, Bool.false_eq_true, Bool.true_eq_false, reduceCtorEq, i_neg1, i_neg2, i_neg3, i_neg4, i_neg5, i_neg6, i_neg7, i_neg8, i_neg9, i_nega, i_negb, i_negc, i_max2, i_min2, (m_ch hm), wi_nil]
            repeat (
              first
              | refine s_X9_mark_0 ?_
              | refine s_X9_mark_5 ?_
              | refine s_X9_mark_14 ?_
              | refine s_X9_mark_17 ?_
              | refine s_X9_mark_19 ?_
              | refine s_X9_mark_41 ?_
              | refine s_X9_mark_51 ?_
              | refine s_X9_mark_56 ?_
              | refine s_X9_mark_57 ?_
              | refine s_X9_mark_66 ?_
              | refine s_X9_mark_100 ?_
              | refine s_X9_mark_113 ?_
              | refine s_X9_mark_121 ?_
              | refine s_X9_mark_123 ?_
              | refine s_X9_mark_129 ?_
              | refine s_X9_mark_140 ?_
              | refine s_X9_mark_146 ?_
              | refine s_X9_mark_147 ?_
              | refine s_X9_mark_148 ?_
              | refine s_X9_mark_154 ?_
              | refine s_X9_mark_158 ?_
              | refine s_X9_mark_174 ?_
              | refine s_X9_mark_175 ?_
              simp (disch := omega) only [B_X9_mark_0, wi_aload_n, wi_iload_n, wi_invokevirtual, cnt_8, B_X9_mark_5, wi_if_eq, wi_iconst, wi_invokestatic, B_X9_mark_14, wi_if_ne, B_X9_mark_17, wi_ireturn, B_X9_mark_19, wi_getfield, fldv_8_11, fds_8_11, wi_iaload, wi_istore_n, wi_icmp_eq, wi_icmp_ne, cnt_36, aTy_36, aLn_36, arr_36, cnt_40, aTy_40, aLn_40, arr_40, B_X9_mark_41, B_X9_mark_51, B_X9_mark_56, B_X9_mark_57, fldv_8_20, fds_8_20, B_X9_mark_66, wi_istore, wi_tsw, B_X9_mark_100, wi_irem, wi_isub, B_X9_mark_113, wi_iload, B_X9_mark_121, B_X9_mark_123, B_X9_mark_129, wi_icmp_le, B_X9_mark_140, wi_goto, B_X9_mark_146, B_X9_mark_147, B_X9_mark_148, B_X9_mark_154, B_X9_mark_158, wi_bipush, wi_iadd, B_X9_mark_174, B_X9_mark_175, no0, no1, nz1, nz2, nz3, nz4, nz5, nz7, nz8, Classical.not_not, bz0, bz1, wi_nil, ld_0, ld_s, isIv_I, isLv_L, isRv_R, true_and, and_true, lset_0, lset_1, lset_s, avw_I, avw_L, avw_R, clr_cons, clr_nil, kst_0, kst_1, kstL_0, kstL_1, addk_I, pA_0, pA_s, pD_0, pD_s, wid_nil, wid_cons, rcv_c, putv_I, putv_L, List.length_cons, List.length_nil, List.set_cons_zero, List.set_cons_succ, not_false_eq_true, Nat.reduceMod, Nat.reduceDiv, Nat.reduceEqDiff, Nat.reduceLT, Nat.reduceLeDiff, Nat.reduceAdd, Nat.reduceSub, reduceIte, Nat.lt_irrefl, Nat.zero_ne_one, Nat.one_ne_zero, Nat.zero_add, List.nil_append, List.cons_append, Option.toList_some, Option.toList_none, forall_const, false_implies, true_implies, false_or, or_false, true_or, or_true, i_le, i_lt, i_eq, i_eq0, i_lt0, i_0le, i_0lt, i_le0, i_in1, i_cl, nI_add, pk_mul, pk_sub, i_div, i_rem, i_sh1, i_bit, i_or, i_and, i_andn, nt_le, nf_le, nt_lt, nf_lt, nt_eq, nf_eq, not_true_eq_false, and_self, and_false, false_and, eq_self, Bool.toNat_true, Bool.toNat_false, i_bool, i_bool1, Bool.false_eq_true, Bool.true_eq_false, reduceCtorEq, i_neg1, i_neg2, i_neg3, i_neg4, i_neg5, i_neg6, i_neg7, i_neg8, i_neg9, i_nega, i_negb, i_negc, i_max2, i_min2, (m_ch hm)])
            exact pm h
    · have key : wpM (d + 10) mX9_mark [aR 8 0, aI (nI i), aI w] S (PM (-nI 1)) := by
        refine x_entry (ls2 := [aR 8 0, aI (nI i), aI w, aU, aU]) (Nat.le_of_ble_eq_true rfl) pl_9 rfl (Nat.le_of_ble_eq_true rfl) ?_
        try simp (disch := omega) only [no0, no1, nz1, nz2, nz3, nz4, nz5, nz7, nz8, Classical.not_not, bz0, bz1, wi_nil, ld_0, ld_s, isIv_I, isLv_L, isRv_R, true_and, and_true, lset_0, lset_1, lset_s, avw_I, avw_L, avw_R, clr_cons, clr_nil, kst_0, kst_1, kstL_0, kstL_1, addk_I, pA_0, pA_s, pD_0, pD_s, wid_nil, wid_cons, rcv_c, putv_I, putv_L, List.length_cons, List.length_nil, List.set_cons_zero, List.set_cons_succ, not_false_eq_true, Nat.reduceMod, Nat.reduceDiv, Nat.reduceEqDiff, Nat.reduceLT, Nat.reduceLeDiff, Nat.reduceAdd, Nat.reduceSub, reduceIte, Nat.lt_irrefl, Nat.zero_ne_one, Nat.one_ne_zero, Nat.zero_add, List.nil_append, List.cons_append, Option.toList_some, Option.toList_none, forall_const, false_implies, true_implies, false_or, or_false, true_or, or_true, i_le, i_lt, i_eq, i_eq0, i_lt0, i_0le, i_0lt, i_le0, i_in1, i_cl, nI_add, pk_mul, pk_sub, i_div, i_rem, i_sh1, i_bit, i_or, i_and, i_andn, nt_le, nf_le, nt_lt, nf_lt, nt_eq, nf_eq, not_true_eq_false, and_self, and_false, false_and, eq_self, Bool.toNat_true, Bool.toNat_false, i_bool, i_bool1, Bool.false_eq_true, Bool.true_eq_false, reduceCtorEq, i_neg1, i_neg2, i_neg3, i_neg4, i_neg5, i_neg6, i_neg7, i_neg8, i_neg9, i_nega, i_negb, i_negc, i_max2, i_min2, wi_nil]
        repeat (
          first
          | refine s_X9_mark_0 ?_
          | refine s_X9_mark_5 ?_
          | refine s_X9_mark_14 ?_
          | refine s_X9_mark_17 ?_
          | refine s_X9_mark_19 ?_
          | refine s_X9_mark_41 ?_
          | refine s_X9_mark_51 ?_
          | refine s_X9_mark_56 ?_
          | refine s_X9_mark_57 ?_
          | refine s_X9_mark_66 ?_
          | refine s_X9_mark_100 ?_
          | refine s_X9_mark_113 ?_
          | refine s_X9_mark_121 ?_
          | refine s_X9_mark_123 ?_
          | refine s_X9_mark_129 ?_
          | refine s_X9_mark_140 ?_
          | refine s_X9_mark_146 ?_
          | refine s_X9_mark_147 ?_
          | refine s_X9_mark_148 ?_
          | refine s_X9_mark_154 ?_
          | refine s_X9_mark_158 ?_
          | refine s_X9_mark_174 ?_
          | refine s_X9_mark_175 ?_
          simp (disch := omega) only [B_X9_mark_0, wi_aload_n, wi_iload_n, wi_invokevirtual, cnt_8, B_X9_mark_5, wi_if_eq, wi_iconst, wi_invokestatic, B_X9_mark_14, wi_if_ne, B_X9_mark_17, wi_ireturn, B_X9_mark_19, wi_getfield, fldv_8_11, fds_8_11, wi_iaload, wi_istore_n, wi_icmp_eq, wi_icmp_ne, cnt_36, aTy_36, aLn_36, arr_36, cnt_40, aTy_40, aLn_40, arr_40, B_X9_mark_41, B_X9_mark_51, B_X9_mark_56, B_X9_mark_57, fldv_8_20, fds_8_20, B_X9_mark_66, wi_istore, wi_tsw, B_X9_mark_100, wi_irem, wi_isub, B_X9_mark_113, wi_iload, B_X9_mark_121, B_X9_mark_123, B_X9_mark_129, wi_icmp_le, B_X9_mark_140, wi_goto, B_X9_mark_146, B_X9_mark_147, B_X9_mark_148, B_X9_mark_154, B_X9_mark_158, wi_bipush, wi_iadd, B_X9_mark_174, B_X9_mark_175, no0, no1, nz1, nz2, nz3, nz4, nz5, nz7, nz8, Classical.not_not, bz0, bz1, wi_nil, ld_0, ld_s, isIv_I, isLv_L, isRv_R, true_and, and_true, lset_0, lset_1, lset_s, avw_I, avw_L, avw_R, clr_cons, clr_nil, kst_0, kst_1, kstL_0, kstL_1, addk_I, pA_0, pA_s, pD_0, pD_s, wid_nil, wid_cons, rcv_c, putv_I, putv_L, List.length_cons, List.length_nil, List.set_cons_zero, List.set_cons_succ, not_false_eq_true, Nat.reduceMod, Nat.reduceDiv, Nat.reduceEqDiff, Nat.reduceLT, Nat.reduceLeDiff, Nat.reduceAdd, Nat.reduceSub, reduceIte, Nat.lt_irrefl, Nat.zero_ne_one, Nat.one_ne_zero, Nat.zero_add, List.nil_append, List.cons_append, Option.toList_some, Option.toList_none, forall_const, false_implies, true_implies, false_or, or_false, true_or, or_true, i_le, i_lt, i_eq, i_eq0, i_lt0, i_0le, i_0lt, i_le0, i_in1, i_cl, nI_add, pk_mul, pk_sub, i_div, i_rem, i_sh1, i_bit, i_or, i_and, i_andn, nt_le, nf_le, nt_lt, nf_lt, nt_eq, nf_eq, not_true_eq_false, and_self, and_false, false_and, eq_self, Bool.toNat_true, Bool.toNat_false, i_bool, i_bool1, Bool.false_eq_true, Bool.true_eq_false, reduceCtorEq, i_neg1, i_neg2, i_neg3, i_neg4, i_neg5, i_neg6, i_neg7, i_neg8, i_neg9, i_nega, i_negb, i_negc, i_max2, i_min2])
        refine c_mDeed hm hn5 ?_
        try simp (disch := omega) only [no0, no1, nz1, nz2, nz3, nz4, nz5, nz7, nz8, Classical.not_not, bz0, bz1, wi_nil, ld_0, ld_s, isIv_I, isLv_L, isRv_R, true_and, and_true, lset_0, lset_1, lset_s, avw_I, avw_L, avw_R, clr_cons, clr_nil, kst_0, kst_1, kstL_0, kstL_1, addk_I, pA_0, pA_s, pD_0, pD_s, wid_nil, wid_cons, rcv_c, putv_I, putv_L, List.length_cons, List.length_nil, List.set_cons_zero, List.set_cons_succ, not_false_eq_true, Nat.reduceMod, Nat.reduceDiv, Nat.reduceEqDiff, Nat.reduceLT, Nat.reduceLeDiff, Nat.reduceAdd, Nat.reduceSub, reduceIte, Nat.lt_irrefl, Nat.zero_ne_one, Nat.one_ne_zero, Nat.zero_add, List.nil_append, List.cons_append, Option.toList_some, Option.toList_none, forall_const, false_implies, true_implies, false_or, or_false, true_or, or_true, i_le, i_lt, i_eq, i_eq0, i_lt0, i_0le, i_0lt, i_le0, i_in1, i_cl, nI_add, pk_mul, pk_sub, i_div, i_rem, i_sh1, i_bit, i_or, i_and, i_andn, nt_le, nf_le, nt_lt, nf_lt, nt_eq, nf_eq, not_true_eq_false, and_self, and_false, false_and, eq_self, Bool.toNat_true, Bool.toNat_false, i_bool, i_bool1, Bool.false_eq_true, Bool.true_eq_false, reduceCtorEq, i_neg1, i_neg2, i_neg3, i_neg4, i_neg5, i_neg6, i_neg7, i_neg8, i_neg9, i_nega, i_negb, i_negc, i_max2, i_min2, hi, wi_nil]
        repeat (
          first
          | refine s_X9_mark_0 ?_
          | refine s_X9_mark_5 ?_
          | refine s_X9_mark_14 ?_
          | refine s_X9_mark_17 ?_
          | refine s_X9_mark_19 ?_
          | refine s_X9_mark_41 ?_
          | refine s_X9_mark_51 ?_
          | refine s_X9_mark_56 ?_
          | refine s_X9_mark_57 ?_
          | refine s_X9_mark_66 ?_
          | refine s_X9_mark_100 ?_
          | refine s_X9_mark_113 ?_
          | refine s_X9_mark_121 ?_
          | refine s_X9_mark_123 ?_
          | refine s_X9_mark_129 ?_
          | refine s_X9_mark_140 ?_
          | refine s_X9_mark_146 ?_
          | refine s_X9_mark_147 ?_
          | refine s_X9_mark_148 ?_
          | refine s_X9_mark_154 ?_
          | refine s_X9_mark_158 ?_
          | refine s_X9_mark_174 ?_
          | refine s_X9_mark_175 ?_
          simp (disch := omega) only [B_X9_mark_0, wi_aload_n, wi_iload_n, wi_invokevirtual, cnt_8, B_X9_mark_5, wi_if_eq, wi_iconst, wi_invokestatic, B_X9_mark_14, wi_if_ne, B_X9_mark_17, wi_ireturn, B_X9_mark_19, wi_getfield, fldv_8_11, fds_8_11, wi_iaload, wi_istore_n, wi_icmp_eq, wi_icmp_ne, cnt_36, aTy_36, aLn_36, arr_36, cnt_40, aTy_40, aLn_40, arr_40, B_X9_mark_41, B_X9_mark_51, B_X9_mark_56, B_X9_mark_57, fldv_8_20, fds_8_20, B_X9_mark_66, wi_istore, wi_tsw, B_X9_mark_100, wi_irem, wi_isub, B_X9_mark_113, wi_iload, B_X9_mark_121, B_X9_mark_123, B_X9_mark_129, wi_icmp_le, B_X9_mark_140, wi_goto, B_X9_mark_146, B_X9_mark_147, B_X9_mark_148, B_X9_mark_154, B_X9_mark_158, wi_bipush, wi_iadd, B_X9_mark_174, B_X9_mark_175, no0, no1, nz1, nz2, nz3, nz4, nz5, nz7, nz8, Classical.not_not, bz0, bz1, wi_nil, ld_0, ld_s, isIv_I, isLv_L, isRv_R, true_and, and_true, lset_0, lset_1, lset_s, avw_I, avw_L, avw_R, clr_cons, clr_nil, kst_0, kst_1, kstL_0, kstL_1, addk_I, pA_0, pA_s, pD_0, pD_s, wid_nil, wid_cons, rcv_c, putv_I, putv_L, List.length_cons, List.length_nil, List.set_cons_zero, List.set_cons_succ, not_false_eq_true, Nat.reduceMod, Nat.reduceDiv, Nat.reduceEqDiff, Nat.reduceLT, Nat.reduceLeDiff, Nat.reduceAdd, Nat.reduceSub, reduceIte, Nat.lt_irrefl, Nat.zero_ne_one, Nat.one_ne_zero, Nat.zero_add, List.nil_append, List.cons_append, Option.toList_some, Option.toList_none, forall_const, false_implies, true_implies, false_or, or_false, true_or, or_true, i_le, i_lt, i_eq, i_eq0, i_lt0, i_0le, i_0lt, i_le0, i_in1, i_cl, nI_add, pk_mul, pk_sub, i_div, i_rem, i_sh1, i_bit, i_or, i_and, i_andn, nt_le, nf_le, nt_lt, nf_lt, nt_eq, nf_eq, not_true_eq_false, and_self, and_false, false_and, eq_self, Bool.toNat_true, Bool.toNat_false, i_bool, i_bool1, Bool.false_eq_true, Bool.true_eq_false, reduceCtorEq, i_neg1, i_neg2, i_neg3, i_neg4, i_neg5, i_neg6, i_neg7, i_neg8, i_neg9, i_nega, i_negb, i_negc, i_max2, i_min2, hi])
        refine c_in (b := false) ⟨fun q => absurd q h1, fun q => by cases q⟩ ?_
        try simp (disch := omega) only [no0, no1, nz1, nz2, nz3, nz4, nz5, nz7, nz8, Classical.not_not, bz0, bz1, wi_nil, ld_0, ld_s, isIv_I, isLv_L, isRv_R, true_and, and_true, lset_0, lset_1, lset_s, avw_I, avw_L, avw_R, clr_cons, clr_nil, kst_0, kst_1, kstL_0, kstL_1, addk_I, pA_0, pA_s, pD_0, pD_s, wid_nil, wid_cons, rcv_c, putv_I, putv_L, List.length_cons, List.length_nil, List.set_cons_zero, List.set_cons_succ, not_false_eq_true, Nat.reduceMod, Nat.reduceDiv, Nat.reduceEqDiff, Nat.reduceLT, Nat.reduceLeDiff, Nat.reduceAdd, Nat.reduceSub, reduceIte, Nat.lt_irrefl, Nat.zero_ne_one, Nat.one_ne_zero, Nat.zero_add, List.nil_append, List.cons_append, Option.toList_some, Option.toList_none, forall_const, false_implies, true_implies, false_or, or_false, true_or, or_true, i_le, i_lt, i_eq, i_eq0, i_lt0, i_0le, i_0lt, i_le0, i_in1, i_cl, nI_add, pk_mul, pk_sub, i_div, i_rem, i_sh1, i_bit, i_or, i_and, i_andn, nt_le, nf_le, nt_lt, nf_lt, nt_eq, nf_eq, not_true_eq_false, and_self, and_false, false_and, eq_self, Bool.toNat_true, Bool.toNat_false, i_bool, i_bool1, Bool.false_eq_true, Bool.true_eq_false, reduceCtorEq, i_neg1, i_neg2, i_neg3, i_neg4, i_neg5, i_neg6, i_neg7, i_neg8, i_neg9, i_nega, i_negb, i_negc, i_max2, i_min2, wi_nil]
        repeat (
          first
          | refine s_X9_mark_0 ?_
          | refine s_X9_mark_5 ?_
          | refine s_X9_mark_14 ?_
          | refine s_X9_mark_17 ?_
          | refine s_X9_mark_19 ?_
          | refine s_X9_mark_41 ?_
          | refine s_X9_mark_51 ?_
          | refine s_X9_mark_56 ?_
          | refine s_X9_mark_57 ?_
          | refine s_X9_mark_66 ?_
          | refine s_X9_mark_100 ?_
          | refine s_X9_mark_113 ?_
          | refine s_X9_mark_121 ?_
          | refine s_X9_mark_123 ?_
          | refine s_X9_mark_129 ?_
          | refine s_X9_mark_140 ?_
          | refine s_X9_mark_146 ?_
          | refine s_X9_mark_147 ?_
          | refine s_X9_mark_148 ?_
          | refine s_X9_mark_154 ?_
          | refine s_X9_mark_158 ?_
          | refine s_X9_mark_174 ?_
          | refine s_X9_mark_175 ?_
          simp (disch := omega) only [B_X9_mark_0, wi_aload_n, wi_iload_n, wi_invokevirtual, cnt_8, B_X9_mark_5, wi_if_eq, wi_iconst, wi_invokestatic, B_X9_mark_14, wi_if_ne, B_X9_mark_17, wi_ireturn, B_X9_mark_19, wi_getfield, fldv_8_11, fds_8_11, wi_iaload, wi_istore_n, wi_icmp_eq, wi_icmp_ne, cnt_36, aTy_36, aLn_36, arr_36, cnt_40, aTy_40, aLn_40, arr_40, B_X9_mark_41, B_X9_mark_51, B_X9_mark_56, B_X9_mark_57, fldv_8_20, fds_8_20, B_X9_mark_66, wi_istore, wi_tsw, B_X9_mark_100, wi_irem, wi_isub, B_X9_mark_113, wi_iload, B_X9_mark_121, B_X9_mark_123, B_X9_mark_129, wi_icmp_le, B_X9_mark_140, wi_goto, B_X9_mark_146, B_X9_mark_147, B_X9_mark_148, B_X9_mark_154, B_X9_mark_158, wi_bipush, wi_iadd, B_X9_mark_174, B_X9_mark_175, no0, no1, nz1, nz2, nz3, nz4, nz5, nz7, nz8, Classical.not_not, bz0, bz1, wi_nil, ld_0, ld_s, isIv_I, isLv_L, isRv_R, true_and, and_true, lset_0, lset_1, lset_s, avw_I, avw_L, avw_R, clr_cons, clr_nil, kst_0, kst_1, kstL_0, kstL_1, addk_I, pA_0, pA_s, pD_0, pD_s, wid_nil, wid_cons, rcv_c, putv_I, putv_L, List.length_cons, List.length_nil, List.set_cons_zero, List.set_cons_succ, not_false_eq_true, Nat.reduceMod, Nat.reduceDiv, Nat.reduceEqDiff, Nat.reduceLT, Nat.reduceLeDiff, Nat.reduceAdd, Nat.reduceSub, reduceIte, Nat.lt_irrefl, Nat.zero_ne_one, Nat.one_ne_zero, Nat.zero_add, List.nil_append, List.cons_append, Option.toList_some, Option.toList_none, forall_const, false_implies, true_implies, false_or, or_false, true_or, or_true, i_le, i_lt, i_eq, i_eq0, i_lt0, i_0le, i_0lt, i_le0, i_in1, i_cl, nI_add, pk_mul, pk_sub, i_div, i_rem, i_sh1, i_bit, i_or, i_and, i_andn, nt_le, nf_le, nt_lt, nf_lt, nt_eq, nf_eq, not_true_eq_false, and_self, and_false, false_and, eq_self, Bool.toNat_true, Bool.toNat_false, i_bool, i_bool1, Bool.false_eq_true, Bool.true_eq_false, reduceCtorEq, i_neg1, i_neg2, i_neg3, i_neg4, i_neg5, i_neg6, i_neg7, i_neg8, i_neg9, i_nega, i_negb, i_negc, i_max2, i_min2])
        exact pm h
      have bad : wpX (d + 9) mX8_mark 18 [aU, aU, aU, aU] [] S (PX d mX9_mark [aI (nI i), aI w]) := by
        try simp (disch := omega) only [no0, no1, nz1, nz2, nz3, nz4, nz5, nz7, nz8, Classical.not_not, bz0, bz1, wi_nil, ld_0, ld_s, isIv_I, isLv_L, isRv_R, true_and, and_true, lset_0, lset_1, lset_s, avw_I, avw_L, avw_R, clr_cons, clr_nil, kst_0, kst_1, kstL_0, kstL_1, addk_I, pA_0, pA_s, pD_0, pD_s, wid_nil, wid_cons, rcv_c, putv_I, putv_L, List.length_cons, List.length_nil, List.set_cons_zero, List.set_cons_succ, not_false_eq_true, Nat.reduceMod, Nat.reduceDiv, Nat.reduceEqDiff, Nat.reduceLT, Nat.reduceLeDiff, Nat.reduceAdd, Nat.reduceSub, reduceIte, Nat.lt_irrefl, Nat.zero_ne_one, Nat.one_ne_zero, Nat.zero_add, List.nil_append, List.cons_append, Option.toList_some, Option.toList_none, forall_const, false_implies, true_implies, false_or, or_false, true_or, or_true, i_le, i_lt, i_eq, i_eq0, i_lt0, i_0le, i_0lt, i_le0, i_in1, i_cl, nI_add, pk_mul, pk_sub, i_div, i_rem, i_sh1, i_bit, i_or, i_and, i_andn, nt_le, nf_le, nt_lt, nf_lt, nt_eq, nf_eq, not_true_eq_false, and_self, and_false, false_and, eq_self, Bool.toNat_true, Bool.toNat_false, i_bool, i_bool1, Bool.false_eq_true, Bool.true_eq_false, reduceCtorEq, i_neg1, i_neg2, i_neg3, i_neg4, i_neg5, i_neg6, i_neg7, i_neg8, i_neg9, i_nega, i_negb, i_negc, i_max2, i_min2, wi_nil]
        repeat (
          first
          | refine s_X8_mark_0 ?_
          | refine s_X8_mark_5 ?_
          | refine s_X8_mark_18 ?_
          | refine s_X8_mark_20 ?_
          | refine s_X8_mark_33 ?_
          | refine s_X8_mark_41 ?_
          | refine s_X8_mark_42 ?_
          | refine s_X8_mark_50 ?_
          | refine s_X8_mark_84 ?_
          | refine s_X8_mark_98 ?_
          | refine s_X8_mark_115 ?_
          | refine s_X8_mark_117 ?_
          | refine s_X8_mark_134 ?_
          | refine s_X8_mark_140 ?_
          | refine s_X8_mark_156 ?_
          | refine s_X8_mark_159 ?_
          | refine s_X8_mark_175 ?_
          | refine s_X8_mark_176 ?_
          simp (disch := omega) only [B_X8_mark_0, wi_aload_n, wi_iload_n, wi_invokevirtual, cnt_7, B_X8_mark_5, wi_if_eq, wi_if_le, wi_bipush, wi_icmp_lt, B_X8_mark_18, wi_iconst, wi_ireturn, B_X8_mark_20, wi_getfield, fldv_7_3, fds_7_3, fldv_6_0, fds_6_0, cnt_6, wi_iaload, wi_invokestatic, cnt_20, aTy_20, aLn_20, arr_20, cnt_24, aTy_24, aLn_24, arr_24, B_X8_mark_33, wi_if_ne, B_X8_mark_41, B_X8_mark_42, B_X8_mark_50, wi_istore_n, wi_tsw, B_X8_mark_84, fldv_6_8, fds_6_8, wi_irem, wi_isub, B_X8_mark_98, B_X8_mark_115, B_X8_mark_117, B_X8_mark_134, wi_max, B_X8_mark_140, B_X8_mark_156, B_X8_mark_159, fldv_6_4, fds_6_4, wi_goto, B_X8_mark_175, B_X8_mark_176, no0, no1, nz1, nz2, nz3, nz4, nz5, nz7, nz8, Classical.not_not, bz0, bz1, wi_nil, ld_0, ld_s, isIv_I, isLv_L, isRv_R, true_and, and_true, lset_0, lset_1, lset_s, avw_I, avw_L, avw_R, clr_cons, clr_nil, kst_0, kst_1, kstL_0, kstL_1, addk_I, pA_0, pA_s, pD_0, pD_s, wid_nil, wid_cons, rcv_c, putv_I, putv_L, List.length_cons, List.length_nil, List.set_cons_zero, List.set_cons_succ, not_false_eq_true, Nat.reduceMod, Nat.reduceDiv, Nat.reduceEqDiff, Nat.reduceLT, Nat.reduceLeDiff, Nat.reduceAdd, Nat.reduceSub, reduceIte, Nat.lt_irrefl, Nat.zero_ne_one, Nat.one_ne_zero, Nat.zero_add, List.nil_append, List.cons_append, Option.toList_some, Option.toList_none, forall_const, false_implies, true_implies, false_or, or_false, true_or, or_true, i_le, i_lt, i_eq, i_eq0, i_lt0, i_0le, i_0lt, i_le0, i_in1, i_cl, nI_add, pk_mul, pk_sub, i_div, i_rem, i_sh1, i_bit, i_or, i_and, i_andn, nt_le, nf_le, nt_lt, nf_lt, nt_eq, nf_eq, not_true_eq_false, and_self, and_false, false_and, eq_self, Bool.toNat_true, Bool.toNat_false, i_bool, i_bool1, Bool.false_eq_true, Bool.true_eq_false, reduceCtorEq, i_neg1, i_neg2, i_neg3, i_neg4, i_neg5, i_neg6, i_neg7, i_neg8, i_neg9, i_nega, i_negb, i_negc, i_max2, i_min2])
        exact px key
      refine x_entry (ls2 := [aR 7 0, aI (nI i), aI w, aU]) (Nat.le_of_ble_eq_true rfl) pl_8 rfl (Nat.le_of_ble_eq_true rfl) ?_
      try simp (disch := omega) only [no0, no1, nz1, nz2, nz3, nz4, nz5, nz7, nz8, Classical.not_not, bz0, bz1, wi_nil, ld_0, ld_s, isIv_I, isLv_L, isRv_R, true_and, and_true, lset_0, lset_1, lset_s, avw_I, avw_L, avw_R, clr_cons, clr_nil, kst_0, kst_1, kstL_0, kstL_1, addk_I, pA_0, pA_s, pD_0, pD_s, wid_nil, wid_cons, rcv_c, putv_I, putv_L, List.length_cons, List.length_nil, List.set_cons_zero, List.set_cons_succ, not_false_eq_true, Nat.reduceMod, Nat.reduceDiv, Nat.reduceEqDiff, Nat.reduceLT, Nat.reduceLeDiff, Nat.reduceAdd, Nat.reduceSub, reduceIte, Nat.lt_irrefl, Nat.zero_ne_one, Nat.one_ne_zero, Nat.zero_add, List.nil_append, List.cons_append, Option.toList_some, Option.toList_none, forall_const, false_implies, true_implies, false_or, or_false, true_or, or_true, i_le, i_lt, i_eq, i_eq0, i_lt0, i_0le, i_0lt, i_le0, i_in1, i_cl, nI_add, pk_mul, pk_sub, i_div, i_rem, i_sh1, i_bit, i_or, i_and, i_andn, nt_le, nf_le, nt_lt, nf_lt, nt_eq, nf_eq, not_true_eq_false, and_self, and_false, false_and, eq_self, Bool.toNat_true, Bool.toNat_false, i_bool, i_bool1, Bool.false_eq_true, Bool.true_eq_false, reduceCtorEq, i_neg1, i_neg2, i_neg3, i_neg4, i_neg5, i_neg6, i_neg7, i_neg8, i_neg9, i_nega, i_negb, i_negc, i_max2, i_min2, wi_nil]
      repeat (
        first
        | refine s_X8_mark_0 ?_
        | refine s_X8_mark_5 ?_
        | refine s_X8_mark_18 ?_
        | refine s_X8_mark_20 ?_
        | refine s_X8_mark_33 ?_
        | refine s_X8_mark_41 ?_
        | refine s_X8_mark_42 ?_
        | refine s_X8_mark_50 ?_
        | refine s_X8_mark_84 ?_
        | refine s_X8_mark_98 ?_
        | refine s_X8_mark_115 ?_
        | refine s_X8_mark_117 ?_
        | refine s_X8_mark_134 ?_
        | refine s_X8_mark_140 ?_
        | refine s_X8_mark_156 ?_
        | refine s_X8_mark_159 ?_
        | refine s_X8_mark_175 ?_
        | refine s_X8_mark_176 ?_
        simp (disch := omega) only [B_X8_mark_0, wi_aload_n, wi_iload_n, wi_invokevirtual, cnt_7, B_X8_mark_5, wi_if_eq, wi_if_le, wi_bipush, wi_icmp_lt, B_X8_mark_18, wi_iconst, wi_ireturn, B_X8_mark_20, wi_getfield, fldv_7_3, fds_7_3, fldv_6_0, fds_6_0, cnt_6, wi_iaload, wi_invokestatic, cnt_20, aTy_20, aLn_20, arr_20, cnt_24, aTy_24, aLn_24, arr_24, B_X8_mark_33, wi_if_ne, B_X8_mark_41, B_X8_mark_42, B_X8_mark_50, wi_istore_n, wi_tsw, B_X8_mark_84, fldv_6_8, fds_6_8, wi_irem, wi_isub, B_X8_mark_98, B_X8_mark_115, B_X8_mark_117, B_X8_mark_134, wi_max, B_X8_mark_140, B_X8_mark_156, B_X8_mark_159, fldv_6_4, fds_6_4, wi_goto, B_X8_mark_175, B_X8_mark_176, no0, no1, nz1, nz2, nz3, nz4, nz5, nz7, nz8, Classical.not_not, bz0, bz1, wi_nil, ld_0, ld_s, isIv_I, isLv_L, isRv_R, true_and, and_true, lset_0, lset_1, lset_s, avw_I, avw_L, avw_R, clr_cons, clr_nil, kst_0, kst_1, kstL_0, kstL_1, addk_I, pA_0, pA_s, pD_0, pD_s, wid_nil, wid_cons, rcv_c, putv_I, putv_L, List.length_cons, List.length_nil, List.set_cons_zero, List.set_cons_succ, not_false_eq_true, Nat.reduceMod, Nat.reduceDiv, Nat.reduceEqDiff, Nat.reduceLT, Nat.reduceLeDiff, Nat.reduceAdd, Nat.reduceSub, reduceIte, Nat.lt_irrefl, Nat.zero_ne_one, Nat.one_ne_zero, Nat.zero_add, List.nil_append, List.cons_append, Option.toList_some, Option.toList_none, forall_const, false_implies, true_implies, false_or, or_false, true_or, or_true, i_le, i_lt, i_eq, i_eq0, i_lt0, i_0le, i_0lt, i_le0, i_in1, i_cl, nI_add, pk_mul, pk_sub, i_div, i_rem, i_sh1, i_bit, i_or, i_and, i_andn, nt_le, nf_le, nt_lt, nf_lt, nt_eq, nf_eq, not_true_eq_false, and_self, and_false, false_and, eq_self, Bool.toNat_true, Bool.toNat_false, i_bool, i_bool1, Bool.false_eq_true, Bool.true_eq_false, reduceCtorEq, i_neg1, i_neg2, i_neg3, i_neg4, i_neg5, i_neg6, i_neg7, i_neg8, i_neg9, i_nega, i_negb, i_negc, i_max2, i_min2])
      refine c_isDeed hy hn5 ?_
      try simp (disch := omega) only [no0, no1, nz1, nz2, nz3, nz4, nz5, nz7, nz8, Classical.not_not, bz0, bz1, wi_nil, ld_0, ld_s, isIv_I, isLv_L, isRv_R, true_and, and_true, lset_0, lset_1, lset_s, avw_I, avw_L, avw_R, clr_cons, clr_nil, kst_0, kst_1, kstL_0, kstL_1, addk_I, pA_0, pA_s, pD_0, pD_s, wid_nil, wid_cons, rcv_c, putv_I, putv_L, List.length_cons, List.length_nil, List.set_cons_zero, List.set_cons_succ, not_false_eq_true, Nat.reduceMod, Nat.reduceDiv, Nat.reduceEqDiff, Nat.reduceLT, Nat.reduceLeDiff, Nat.reduceAdd, Nat.reduceSub, reduceIte, Nat.lt_irrefl, Nat.zero_ne_one, Nat.one_ne_zero, Nat.zero_add, List.nil_append, List.cons_append, Option.toList_some, Option.toList_none, forall_const, false_implies, true_implies, false_or, or_false, true_or, or_true, i_le, i_lt, i_eq, i_eq0, i_lt0, i_0le, i_0lt, i_le0, i_in1, i_cl, nI_add, pk_mul, pk_sub, i_div, i_rem, i_sh1, i_bit, i_or, i_and, i_andn, nt_le, nf_le, nt_lt, nf_lt, nt_eq, nf_eq, not_true_eq_false, and_self, and_false, false_and, eq_self, Bool.toNat_true, Bool.toNat_false, i_bool, i_bool1, Bool.false_eq_true, Bool.true_eq_false, reduceCtorEq, i_neg1, i_neg2, i_neg3, i_neg4, i_neg5, i_neg6, i_neg7, i_neg8, i_neg9, i_nega, i_negb, i_negc, i_max2, i_min2, hi, wi_nil]
      repeat (
        first
        | refine s_X8_mark_0 ?_
        | refine s_X8_mark_5 ?_
        | refine s_X8_mark_20 ?_
        | refine s_X8_mark_33 ?_
        | refine s_X8_mark_41 ?_
        | refine s_X8_mark_42 ?_
        | refine s_X8_mark_50 ?_
        | refine s_X8_mark_84 ?_
        | refine s_X8_mark_98 ?_
        | refine s_X8_mark_115 ?_
        | refine s_X8_mark_117 ?_
        | refine s_X8_mark_134 ?_
        | refine s_X8_mark_140 ?_
        | refine s_X8_mark_156 ?_
        | refine s_X8_mark_159 ?_
        | refine s_X8_mark_175 ?_
        | refine s_X8_mark_176 ?_
        simp (disch := omega) only [B_X8_mark_0, wi_aload_n, wi_iload_n, wi_invokevirtual, cnt_7, B_X8_mark_5, wi_if_eq, wi_if_le, wi_bipush, wi_icmp_lt, B_X8_mark_18, wi_iconst, wi_ireturn, B_X8_mark_20, wi_getfield, fldv_7_3, fds_7_3, fldv_6_0, fds_6_0, cnt_6, wi_iaload, wi_invokestatic, cnt_20, aTy_20, aLn_20, arr_20, cnt_24, aTy_24, aLn_24, arr_24, B_X8_mark_33, wi_if_ne, B_X8_mark_41, B_X8_mark_42, B_X8_mark_50, wi_istore_n, wi_tsw, B_X8_mark_84, fldv_6_8, fds_6_8, wi_irem, wi_isub, B_X8_mark_98, B_X8_mark_115, B_X8_mark_117, B_X8_mark_134, wi_max, B_X8_mark_140, B_X8_mark_156, B_X8_mark_159, fldv_6_4, fds_6_4, wi_goto, B_X8_mark_175, B_X8_mark_176, no0, no1, nz1, nz2, nz3, nz4, nz5, nz7, nz8, Classical.not_not, bz0, bz1, wi_nil, ld_0, ld_s, isIv_I, isLv_L, isRv_R, true_and, and_true, lset_0, lset_1, lset_s, avw_I, avw_L, avw_R, clr_cons, clr_nil, kst_0, kst_1, kstL_0, kstL_1, addk_I, pA_0, pA_s, pD_0, pD_s, wid_nil, wid_cons, rcv_c, putv_I, putv_L, List.length_cons, List.length_nil, List.set_cons_zero, List.set_cons_succ, not_false_eq_true, Nat.reduceMod, Nat.reduceDiv, Nat.reduceEqDiff, Nat.reduceLT, Nat.reduceLeDiff, Nat.reduceAdd, Nat.reduceSub, reduceIte, Nat.lt_irrefl, Nat.zero_ne_one, Nat.one_ne_zero, Nat.zero_add, List.nil_append, List.cons_append, Option.toList_some, Option.toList_none, forall_const, false_implies, true_implies, false_or, or_false, true_or, or_true, i_le, i_lt, i_eq, i_eq0, i_lt0, i_0le, i_0lt, i_le0, i_in1, i_cl, nI_add, pk_mul, pk_sub, i_div, i_rem, i_sh1, i_bit, i_or, i_and, i_andn, nt_le, nf_le, nt_lt, nf_lt, nt_eq, nf_eq, not_true_eq_false, and_self, and_false, false_and, eq_self, Bool.toNat_true, Bool.toNat_false, i_bool, i_bool1, Bool.false_eq_true, Bool.true_eq_false, reduceCtorEq, i_neg1, i_neg2, i_neg3, i_neg4, i_neg5, i_neg6, i_neg7, i_neg8, i_neg9, i_nega, i_negb, i_negc, i_max2, i_min2, hi])
      refine ⟨fun _ => bad, fun a => ⟨fun b => absurd ⟨?_, ?_⟩ h1, fun _ => bad⟩⟩
      · rw [Int32.le_iff_toInt_le, Int32.toInt_zero] at a
        rw [Int32.le_iff_toInt_le, e1]
        omega
      · rw [Int32.lt_iff_toInt_lt, e6] at b
        rw [Int32.le_iff_toInt_le, e5]
        omega
end
