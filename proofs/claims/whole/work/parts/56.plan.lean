-- PART 56: plan
section
variable {d B : Nat} {S S2 : MS} {Y Y0 : Nat → Nat → Nat} {P : Option AV → MS → Prop} {rs : Nat → Nat} {rc : Nat → Nat → Int32}
theorem tb_fill {kz kc N w r n : Nat} {v : Nat → Int32} (h : Tb S kz kc N w rs rc) (hn : n ≤ w) (hz : gA S2 kz 0 = upd (gA S kz 0) r (nI n)) (hc : ∀ q, (q < w * r ∨ w * r + w ≤ q) → gA S2 kc 0 q = gA S kc 0 q) (hv : ∀ i, i < n → gA S2 kc 0 (w * r + i) = v i) : Tb S2 kz kc N w (updN rs r (n + 1)) (fun a p => if a = r then v p else rc a p) := by
  intro a ha
  have h0 := h a ha
  rw [hz]
  unfold updN
  by_cases e : a = r
  · subst e
    rw [if_pos rfl, pk_us]
    refine ⟨rfl, by omega, fun i hi => ?_⟩
    try dsimp only
    rw [if_pos rfl]
    exact hv i (by omega)
  · rw [if_neg e, pk_un e]
    refine ⟨h0.1, h0.2.1, fun i hi => ?_⟩
    try dsimp only
    rw [if_neg e, hc _ (far e (by omega))]
    exact h0.2.2 i hi
theorem l_xwrite {n r : Nat} {z : Int32} {D : Nat → Nat} {S0 : MS} (hn : n ≤ 3) (hr : r < 6) (hD : ∀ t, t < n → gA S0 14 0 t = nI (D t)) (q : ∀ g, (∀ i, i < n → g (40 * r + i) = nI (D i)) → (∀ p, (p < 40 * r ∨ 40 * r + 40 ≤ p) → g p = gA S0 16 0 p) → P (some (aI z)) (sA S0 16 0 g)) : ∀ (m t : Nat) (g : Nat → Int32), t + m = n → (∀ i, i < t → g (40 * r + i) = nI (D i)) → (∀ p, (p < 40 * r ∨ 40 * r + 40 ≤ p) → g p = gA S0 16 0 p) → wpX (d + 9) mX8_plan 56 [aR 7 0, aI (nI n), aI (nI r), aI z, aI (nI t)] [] (sA S0 16 0 g) P := by
  intro m
  induction m with
  | zero =>
    intro t g ht h1 h2
    have e : t = n := by omega
    subst e
    refine s_X8_plan_56 ?_
    simp (disch := omega) only [B_X8_plan_56, wi_iload, wi_iload_n, wi_icmp_ge, wi_aload_n, wi_getfield, fldv_7_0, fds_7_0, cnt_7, fldv_7_7, fds_7_7, fldv_1_3, fds_1_3, cnt_1, wi_iaload, wi_invokevirtual, cnt_3, cnt_14, aTy_14, aLn_14, arr_14, no0, no1, nz1, nz2, nz3, nz4, nz5, nz7, nz8, Classical.not_not, bz0, bz1, wi_nil, ld_0, ld_s, isIv_I, isLv_L, isRv_R, true_and, and_true, lset_0, lset_1, lset_s, avw_I, avw_L, avw_R, clr_cons, clr_nil, kst_0, kst_1, kstL_0, kstL_1, addk_I, pA_0, pA_s, pD_0, pD_s, wid_nil, wid_cons, rcv_c, putv_I, putv_L, List.length_cons, List.length_nil, List.set_cons_zero, List.set_cons_succ, not_false_eq_true, Nat.reduceMod, Nat.reduceDiv, Nat.reduceEqDiff, Nat.reduceLT, Nat.reduceLeDiff, Nat.reduceAdd, Nat.reduceSub, reduceIte, Nat.lt_irrefl, Nat.zero_ne_one, Nat.one_ne_zero, Nat.zero_add, List.nil_append, List.cons_append, Option.toList_some, Option.toList_none, forall_const, false_implies, true_implies, false_or, or_false, true_or, or_true, i_le, i_lt, i_eq, i_eq0, i_lt0, i_0le, i_0lt, i_le0, i_in1, i_cl, nI_add, pk_mul, pk_sub, i_div, i_rem, i_sh1, i_bit, i_or, i_and, i_andn, nt_le, nf_le, nt_lt, nf_lt, nt_eq, nf_eq, not_true_eq_false, and_self, and_false, false_and, eq_self, Bool.toNat_true, Bool.toNat_false, i_bool, i_bool1, Bool.false_eq_true, Bool.true_eq_false, reduceCtorEq, i_neg1, i_neg2, i_neg3, i_neg4, i_neg5, i_neg6, i_neg7, i_neg8, i_neg9, i_nega, i_negb, i_negc, i_max2, i_min2]
    try simp (disch := omega) only [no0, no1, nz1, nz2, nz3, nz4, nz5, nz7, nz8, Classical.not_not, bz0, bz1, wi_nil, ld_0, ld_s, isIv_I, isLv_L, isRv_R, true_and, and_true, lset_0, lset_1, lset_s, avw_I, avw_L, avw_R, clr_cons, clr_nil, kst_0, kst_1, kstL_0, kstL_1, addk_I, pA_0, pA_s, pD_0, pD_s, wid_nil, wid_cons, rcv_c, putv_I, putv_L, List.length_cons, List.length_nil, List.set_cons_zero, List.set_cons_succ, not_false_eq_true, Nat.reduceMod, Nat.reduceDiv, Nat.reduceEqDiff, Nat.reduceLT, Nat.reduceLeDiff, Nat.reduceAdd, Nat.reduceSub, reduceIte, Nat.lt_irrefl, Nat.zero_ne_one, Nat.one_ne_zero, Nat.zero_add, List.nil_append, List.cons_append, Option.toList_some, Option.toList_none, forall_const, false_implies, true_implies, false_or, or_false, true_or, or_true, i_le, i_lt, i_eq, i_eq0, i_lt0, i_0le, i_0lt, i_le0, i_in1, i_cl, nI_add, pk_mul, pk_sub, i_div, i_rem, i_sh1, i_bit, i_or, i_and, i_andn, nt_le, nf_le, nt_lt, nf_lt, nt_eq, nf_eq, not_true_eq_false, and_self, and_false, false_and, eq_self, Bool.toNat_true, Bool.toNat_false, i_bool, i_bool1, Bool.false_eq_true, Bool.true_eq_false, reduceCtorEq, i_neg1, i_neg2, i_neg3, i_neg4, i_neg5, i_neg6, i_neg7, i_neg8, i_neg9, i_nega, i_negb, i_negc, i_max2, i_min2, wi_nil]
    repeat (
      first
      | refine s_X8_plan_0 ?_
      | refine s_X8_plan_13 ?_
      | refine s_X8_plan_16 ?_
      | refine s_X8_plan_18 ?_
      | refine s_X8_plan_31 ?_
      | refine s_X8_plan_43 ?_
      | refine s_X8_plan_53 ?_
      | refine s_X8_plan_82 ?_
      | refine s_X8_plan_88 ?_
      simp (disch := omega) only [B_X8_plan_0, wi_iload_n, wi_if_lt, wi_iconst, wi_icmp_gt, wi_invokestatic, B_X8_plan_13, wi_if_ne, B_X8_plan_16, wi_ireturn, B_X8_plan_18, wi_aload_n, wi_getfield, fldv_7_3, fds_7_3, cnt_7, fldv_6_7, fds_6_7, cnt_6, wi_bipush, B_X8_plan_31, fldv_7_7, fds_7_7, wi_invokevirtual, cnt_1, B_X8_plan_43, wi_istore_n, fldv_7_0, fds_7_0, cnt_3, B_X8_plan_53, wi_istore, B_X8_plan_56, wi_iload, wi_icmp_ge, fldv_1_3, fds_1_3, wi_iaload, cnt_14, aTy_14, aLn_14, arr_14, B_X8_plan_82, wi_iinc, wi_goto, B_X8_plan_88, no0, no1, nz1, nz2, nz3, nz4, nz5, nz7, nz8, Classical.not_not, bz0, bz1, wi_nil, ld_0, ld_s, isIv_I, isLv_L, isRv_R, true_and, and_true, lset_0, lset_1, lset_s, avw_I, avw_L, avw_R, clr_cons, clr_nil, kst_0, kst_1, kstL_0, kstL_1, addk_I, pA_0, pA_s, pD_0, pD_s, wid_nil, wid_cons, rcv_c, putv_I, putv_L, List.length_cons, List.length_nil, List.set_cons_zero, List.set_cons_succ, not_false_eq_true, Nat.reduceMod, Nat.reduceDiv, Nat.reduceEqDiff, Nat.reduceLT, Nat.reduceLeDiff, Nat.reduceAdd, Nat.reduceSub, reduceIte, Nat.lt_irrefl, Nat.zero_ne_one, Nat.one_ne_zero, Nat.zero_add, List.nil_append, List.cons_append, Option.toList_some, Option.toList_none, forall_const, false_implies, true_implies, false_or, or_false, true_or, or_true, i_le, i_lt, i_eq, i_eq0, i_lt0, i_0le, i_0lt, i_le0, i_in1, i_cl, nI_add, pk_mul, pk_sub, i_div, i_rem, i_sh1, i_bit, i_or, i_and, i_andn, nt_le, nf_le, nt_lt, nf_lt, nt_eq, nf_eq, not_true_eq_false, and_self, and_false, false_and, eq_self, Bool.toNat_true, Bool.toNat_false, i_bool, i_bool1, Bool.false_eq_true, Bool.true_eq_false, reduceCtorEq, i_neg1, i_neg2, i_neg3, i_neg4, i_neg5, i_neg6, i_neg7, i_neg8, i_neg9, i_nega, i_negb, i_negc, i_max2, i_min2])
    exact q g h1 h2
  | succ m ih =>
    intro t g ht h1 h2
    have hd : gA (sA S0 16 0 g) 14 0 t = nI (D t) := hD t (by omega)
    refine s_X8_plan_56 ?_
    simp (disch := omega) only [B_X8_plan_56, wi_iload, wi_iload_n, wi_icmp_ge, wi_aload_n, wi_getfield, fldv_7_0, fds_7_0, cnt_7, fldv_7_7, fds_7_7, fldv_1_3, fds_1_3, cnt_1, wi_iaload, wi_invokevirtual, cnt_3, cnt_14, aTy_14, aLn_14, arr_14, no0, no1, nz1, nz2, nz3, nz4, nz5, nz7, nz8, Classical.not_not, bz0, bz1, wi_nil, ld_0, ld_s, isIv_I, isLv_L, isRv_R, true_and, and_true, lset_0, lset_1, lset_s, avw_I, avw_L, avw_R, clr_cons, clr_nil, kst_0, kst_1, kstL_0, kstL_1, addk_I, pA_0, pA_s, pD_0, pD_s, wid_nil, wid_cons, rcv_c, putv_I, putv_L, List.length_cons, List.length_nil, List.set_cons_zero, List.set_cons_succ, not_false_eq_true, Nat.reduceMod, Nat.reduceDiv, Nat.reduceEqDiff, Nat.reduceLT, Nat.reduceLeDiff, Nat.reduceAdd, Nat.reduceSub, reduceIte, Nat.lt_irrefl, Nat.zero_ne_one, Nat.one_ne_zero, Nat.zero_add, List.nil_append, List.cons_append, Option.toList_some, Option.toList_none, forall_const, false_implies, true_implies, false_or, or_false, true_or, or_true, i_le, i_lt, i_eq, i_eq0, i_lt0, i_0le, i_0lt, i_le0, i_in1, i_cl, nI_add, pk_mul, pk_sub, i_div, i_rem, i_sh1, i_bit, i_or, i_and, i_andn, nt_le, nf_le, nt_lt, nf_lt, nt_eq, nf_eq, not_true_eq_false, and_self, and_false, false_and, eq_self, Bool.toNat_true, Bool.toNat_false, i_bool, i_bool1, Bool.false_eq_true, Bool.true_eq_false, reduceCtorEq, i_neg1, i_neg2, i_neg3, i_neg4, i_neg5, i_neg6, i_neg7, i_neg8, i_neg9, i_nega, i_negb, i_negc, i_max2, i_min2, hd]
    refine c_Rwrite hr (by omega) ?_
    rw [gA_same, sA_sA]
    try simp (disch := omega) only [no0, no1, nz1, nz2, nz3, nz4, nz5, nz7, nz8, Classical.not_not, bz0, bz1, wi_nil, ld_0, ld_s, isIv_I, isLv_L, isRv_R, true_and, and_true, lset_0, lset_1, lset_s, avw_I, avw_L, avw_R, clr_cons, clr_nil, kst_0, kst_1, kstL_0, kstL_1, addk_I, pA_0, pA_s, pD_0, pD_s, wid_nil, wid_cons, rcv_c, putv_I, putv_L, List.length_cons, List.length_nil, List.set_cons_zero, List.set_cons_succ, not_false_eq_true, Nat.reduceMod, Nat.reduceDiv, Nat.reduceEqDiff, Nat.reduceLT, Nat.reduceLeDiff, Nat.reduceAdd, Nat.reduceSub, reduceIte, Nat.lt_irrefl, Nat.zero_ne_one, Nat.one_ne_zero, Nat.zero_add, List.nil_append, List.cons_append, Option.toList_some, Option.toList_none, forall_const, false_implies, true_implies, false_or, or_false, true_or, or_true, i_le, i_lt, i_eq, i_eq0, i_lt0, i_0le, i_0lt, i_le0, i_in1, i_cl, nI_add, pk_mul, pk_sub, i_div, i_rem, i_sh1, i_bit, i_or, i_and, i_andn, nt_le, nf_le, nt_lt, nf_lt, nt_eq, nf_eq, not_true_eq_false, and_self, and_false, false_and, eq_self, Bool.toNat_true, Bool.toNat_false, i_bool, i_bool1, Bool.false_eq_true, Bool.true_eq_false, reduceCtorEq, i_neg1, i_neg2, i_neg3, i_neg4, i_neg5, i_neg6, i_neg7, i_neg8, i_neg9, i_nega, i_negb, i_negc, i_max2, i_min2, wi_nil]
    repeat (
      first
      | refine s_X8_plan_0 ?_
      | refine s_X8_plan_13 ?_
      | refine s_X8_plan_16 ?_
      | refine s_X8_plan_18 ?_
      | refine s_X8_plan_31 ?_
      | refine s_X8_plan_43 ?_
      | refine s_X8_plan_53 ?_
      | refine s_X8_plan_82 ?_
      | refine s_X8_plan_88 ?_
      simp (disch := omega) only [B_X8_plan_0, wi_iload_n, wi_if_lt, wi_iconst, wi_icmp_gt, wi_invokestatic, B_X8_plan_13, wi_if_ne, B_X8_plan_16, wi_ireturn, B_X8_plan_18, wi_aload_n, wi_getfield, fldv_7_3, fds_7_3, cnt_7, fldv_6_7, fds_6_7, cnt_6, wi_bipush, B_X8_plan_31, fldv_7_7, fds_7_7, wi_invokevirtual, cnt_1, B_X8_plan_43, wi_istore_n, fldv_7_0, fds_7_0, cnt_3, B_X8_plan_53, wi_istore, B_X8_plan_56, wi_iload, wi_icmp_ge, fldv_1_3, fds_1_3, wi_iaload, cnt_14, aTy_14, aLn_14, arr_14, B_X8_plan_82, wi_iinc, wi_goto, B_X8_plan_88, no0, no1, nz1, nz2, nz3, nz4, nz5, nz7, nz8, Classical.not_not, bz0, bz1, wi_nil, ld_0, ld_s, isIv_I, isLv_L, isRv_R, true_and, and_true, lset_0, lset_1, lset_s, avw_I, avw_L, avw_R, clr_cons, clr_nil, kst_0, kst_1, kstL_0, kstL_1, addk_I, pA_0, pA_s, pD_0, pD_s, wid_nil, wid_cons, rcv_c, putv_I, putv_L, List.length_cons, List.length_nil, List.set_cons_zero, List.set_cons_succ, not_false_eq_true, Nat.reduceMod, Nat.reduceDiv, Nat.reduceEqDiff, Nat.reduceLT, Nat.reduceLeDiff, Nat.reduceAdd, Nat.reduceSub, reduceIte, Nat.lt_irrefl, Nat.zero_ne_one, Nat.one_ne_zero, Nat.zero_add, List.nil_append, List.cons_append, Option.toList_some, Option.toList_none, forall_const, false_implies, true_implies, false_or, or_false, true_or, or_true, i_le, i_lt, i_eq, i_eq0, i_lt0, i_0le, i_0lt, i_le0, i_in1, i_cl, nI_add, pk_mul, pk_sub, i_div, i_rem, i_sh1, i_bit, i_or, i_and, i_andn, nt_le, nf_le, nt_lt, nf_lt, nt_eq, nf_eq, not_true_eq_false, and_self, and_false, false_and, eq_self, Bool.toNat_true, Bool.toNat_false, i_bool, i_bool1, Bool.false_eq_true, Bool.true_eq_false, reduceCtorEq, i_neg1, i_neg2, i_neg3, i_neg4, i_neg5, i_neg6, i_neg7, i_neg8, i_neg9, i_nega, i_negb, i_negc, i_max2, i_min2])
    refine ih (t + 1) _ (by omega) (fun i hi => ?_) (fun p hp => ?_)
    · by_cases e : i = t
      · subst e; rw [pk_us]
      · rw [pk_un (by omega)]
        exact h1 i (by omega)
    · rw [pk_un (by omega)]
      exact h2 p hp
theorem o_plan {n r : Int32} (h : Rr S) : wpM (d + 10) mX8_plan [aR 7 0, aI n, aI r] S (PX d mX9_plan [aI n, aI r]) := by
  obtain ⟨Y, hy, hok, hm⟩ := r_year h
  obtain ⟨⟨rs, rc, h1⟩, -⟩ := id h
  have hn5 := hok.1.1
  have h32 := p2_lt hn5
  cases hn : inB n 4
  · have key : wpM (d + 10) mX9_plan [aR 8 0, aI n, aI r] S (PM (-nI 1)) := by
      refine x_entry (ls2 := [aR 8 0, aI n, aI r, aU, aU, aU, aU, aU, aU]) (Nat.le_of_ble_eq_true rfl) pl_9 rfl (Nat.le_of_ble_eq_true rfl) ?_
      try simp (disch := omega) only [no0, no1, nz1, nz2, nz3, nz4, nz5, nz7, nz8, Classical.not_not, bz0, bz1, wi_nil, ld_0, ld_s, isIv_I, isLv_L, isRv_R, true_and, and_true, lset_0, lset_1, lset_s, avw_I, avw_L, avw_R, clr_cons, clr_nil, kst_0, kst_1, kstL_0, kstL_1, addk_I, pA_0, pA_s, pD_0, pD_s, wid_nil, wid_cons, rcv_c, putv_I, putv_L, List.length_cons, List.length_nil, List.set_cons_zero, List.set_cons_succ, not_false_eq_true, Nat.reduceMod, Nat.reduceDiv, Nat.reduceEqDiff, Nat.reduceLT, Nat.reduceLeDiff, Nat.reduceAdd, Nat.reduceSub, reduceIte, Nat.lt_irrefl, Nat.zero_ne_one, Nat.one_ne_zero, Nat.zero_add, List.nil_append, List.cons_append, Option.toList_some, Option.toList_none, forall_const, false_implies, true_implies, false_or, or_false, true_or, or_true, i_le, i_lt, i_eq, i_eq0, i_lt0, i_0le, i_0lt, i_le0, i_in1, i_cl, nI_add, pk_mul, pk_sub, i_div, i_rem, i_sh1, i_bit, i_or, i_and, i_andn, nt_le, nf_le, nt_lt, nf_lt, nt_eq, nf_eq, not_true_eq_false, and_self, and_false, false_and, eq_self, Bool.toNat_true, Bool.toNat_false, i_bool, i_bool1, Bool.false_eq_true, Bool.true_eq_false, reduceCtorEq, i_neg1, i_neg2, i_neg3, i_neg4, i_neg5, i_neg6, i_neg7, i_neg8, i_neg9, i_nega, i_negb, i_negc, i_max2, i_min2, wi_nil]
      repeat (
        first
        | refine s_X9_plan_0 ?_
        | refine s_X9_plan_7 ?_
        | refine s_X9_plan_14 ?_
        | refine s_X9_plan_21 ?_
        | refine s_X9_plan_22 ?_
        | refine s_X9_plan_25 ?_
        | refine s_X9_plan_32 ?_
        | refine s_X9_plan_61 ?_
        | refine s_X9_plan_84 ?_
        | refine s_X9_plan_98 ?_
        | refine s_X9_plan_100 ?_
        | refine s_X9_plan_114 ?_
        | refine s_X9_plan_116 ?_
        | refine s_X9_plan_124 ?_
        | refine s_X9_plan_131 ?_
        | refine s_X9_plan_173 ?_
        simp (disch := omega) only [B_X9_plan_0, wi_aload_n, wi_iload_n, wi_iconst, wi_invokestatic, B_X9_plan_7, wi_if_eq, B_X9_plan_14, wi_goto, B_X9_plan_21, B_X9_plan_22, wi_invokevirtual, cnt_8, B_X9_plan_25, wi_istore_n, wi_if_ge, wi_ireturn, B_X9_plan_32, wi_istore, B_X9_plan_38, wi_iload, wi_icmp_ge, wi_getfield, fldv_8_10, fds_8_10, wi_ishl, wi_imul, wi_iinc, B_X9_plan_61, B_X9_plan_70, B_X9_plan_84, wi_icmp_le, B_X9_plan_98, B_X9_plan_100, B_X9_plan_114, B_X9_plan_116, B_X9_plan_124, B_X9_plan_131, wi_pop, fldv_8_5, fds_8_5, wi_iastore, cnt_31, aTy_31, aLn_31, arr_31, cnt_32, aTy_32, aLn_32, arr_32, cnt_47, aTy_47, aLn_47, arr_47, B_X9_plan_142, fldv_8_6, fds_8_6, wi_bipush, wi_iadd, fldv_8_28, fds_8_28, wi_iaload, B_X9_plan_173, no0, no1, nz1, nz2, nz3, nz4, nz5, nz7, nz8, Classical.not_not, bz0, bz1, wi_nil, ld_0, ld_s, isIv_I, isLv_L, isRv_R, true_and, and_true, lset_0, lset_1, lset_s, avw_I, avw_L, avw_R, clr_cons, clr_nil, kst_0, kst_1, kstL_0, kstL_1, addk_I, pA_0, pA_s, pD_0, pD_s, wid_nil, wid_cons, rcv_c, putv_I, putv_L, List.length_cons, List.length_nil, List.set_cons_zero, List.set_cons_succ, not_false_eq_true, Nat.reduceMod, Nat.reduceDiv, Nat.reduceEqDiff, Nat.reduceLT, Nat.reduceLeDiff, Nat.reduceAdd, Nat.reduceSub, reduceIte, Nat.lt_irrefl, Nat.zero_ne_one, Nat.one_ne_zero, Nat.zero_add, List.nil_append, List.cons_append, Option.toList_some, Option.toList_none, forall_const, false_implies, true_implies, false_or, or_false, true_or, or_true, i_le, i_lt, i_eq, i_eq0, i_lt0, i_0le, i_0lt, i_le0, i_in1, i_cl, nI_add, pk_mul, pk_sub, i_div, i_rem, i_sh1, i_bit, i_or, i_and, i_andn, nt_le, nf_le, nt_lt, nf_lt, nt_eq, nf_eq, not_true_eq_false, and_self, and_false, false_and, eq_self, Bool.toNat_true, Bool.toNat_false, i_bool, i_bool1, Bool.false_eq_true, Bool.true_eq_false, reduceCtorEq, i_neg1, i_neg2, i_neg3, i_neg4, i_neg5, i_neg6, i_neg7, i_neg8, i_neg9, i_nega, i_negb, i_negc, i_max2, i_min2])
      refine c_in (inb_le (N := 3) (by decide)) ?_
      try simp (disch := omega) only [no0, no1, nz1, nz2, nz3, nz4, nz5, nz7, nz8, Classical.not_not, bz0, bz1, wi_nil, ld_0, ld_s, isIv_I, isLv_L, isRv_R, true_and, and_true, lset_0, lset_1, lset_s, avw_I, avw_L, avw_R, clr_cons, clr_nil, kst_0, kst_1, kstL_0, kstL_1, addk_I, pA_0, pA_s, pD_0, pD_s, wid_nil, wid_cons, rcv_c, putv_I, putv_L, List.length_cons, List.length_nil, List.set_cons_zero, List.set_cons_succ, not_false_eq_true, Nat.reduceMod, Nat.reduceDiv, Nat.reduceEqDiff, Nat.reduceLT, Nat.reduceLeDiff, Nat.reduceAdd, Nat.reduceSub, reduceIte, Nat.lt_irrefl, Nat.zero_ne_one, Nat.one_ne_zero, Nat.zero_add, List.nil_append, List.cons_append, Option.toList_some, Option.toList_none, forall_const, false_implies, true_implies, false_or, or_false, true_or, or_true, i_le, i_lt, i_eq, i_eq0, i_lt0, i_0le, i_0lt, i_le0, i_in1, i_cl, nI_add, pk_mul, pk_sub, i_div, i_rem, i_sh1, i_bit, i_or, i_and, i_andn, nt_le, nf_le, nt_lt, nf_lt, nt_eq, nf_eq, not_true_eq_false, and_self, and_false, false_and, eq_self, Bool.toNat_true, Bool.toNat_false, i_bool, i_bool1, Bool.false_eq_true, Bool.true_eq_false, reduceCtorEq, i_neg1, i_neg2, i_neg3, i_neg4, i_neg5, i_neg6, i_neg7, i_neg8, i_neg9, i_nega, i_negb, i_negc, i_max2, i_min2, hn, wi_nil]
      repeat (
        first
        | refine s_X9_plan_0 ?_
        | refine s_X9_plan_7 ?_
        | refine s_X9_plan_14 ?_
        | refine s_X9_plan_21 ?_
        | refine s_X9_plan_22 ?_
        | refine s_X9_plan_25 ?_
        | refine s_X9_plan_32 ?_
        | refine s_X9_plan_61 ?_
        | refine s_X9_plan_84 ?_
        | refine s_X9_plan_98 ?_
        | refine s_X9_plan_100 ?_
        | refine s_X9_plan_114 ?_
        | refine s_X9_plan_116 ?_
        | refine s_X9_plan_124 ?_
        | refine s_X9_plan_131 ?_
        | refine s_X9_plan_173 ?_
        simp (disch := omega) only [B_X9_plan_0, wi_aload_n, wi_iload_n, wi_iconst, wi_invokestatic, B_X9_plan_7, wi_if_eq, B_X9_plan_14, wi_goto, B_X9_plan_21, B_X9_plan_22, wi_invokevirtual, cnt_8, B_X9_plan_25, wi_istore_n, wi_if_ge, wi_ireturn, B_X9_plan_32, wi_istore, B_X9_plan_38, wi_iload, wi_icmp_ge, wi_getfield, fldv_8_10, fds_8_10, wi_ishl, wi_imul, wi_iinc, B_X9_plan_61, B_X9_plan_70, B_X9_plan_84, wi_icmp_le, B_X9_plan_98, B_X9_plan_100, B_X9_plan_114, B_X9_plan_116, B_X9_plan_124, B_X9_plan_131, wi_pop, fldv_8_5, fds_8_5, wi_iastore, cnt_31, aTy_31, aLn_31, arr_31, cnt_32, aTy_32, aLn_32, arr_32, cnt_47, aTy_47, aLn_47, arr_47, B_X9_plan_142, fldv_8_6, fds_8_6, wi_bipush, wi_iadd, fldv_8_28, fds_8_28, wi_iaload, B_X9_plan_173, no0, no1, nz1, nz2, nz3, nz4, nz5, nz7, nz8, Classical.not_not, bz0, bz1, wi_nil, ld_0, ld_s, isIv_I, isLv_L, isRv_R, true_and, and_true, lset_0, lset_1, lset_s, avw_I, avw_L, avw_R, clr_cons, clr_nil, kst_0, kst_1, kstL_0, kstL_1, addk_I, pA_0, pA_s, pD_0, pD_s, wid_nil, wid_cons, rcv_c, putv_I, putv_L, List.length_cons, List.length_nil, List.set_cons_zero, List.set_cons_succ, not_false_eq_true, Nat.reduceMod, Nat.reduceDiv, Nat.reduceEqDiff, Nat.reduceLT, Nat.reduceLeDiff, Nat.reduceAdd, Nat.reduceSub, reduceIte, Nat.lt_irrefl, Nat.zero_ne_one, Nat.one_ne_zero, Nat.zero_add, List.nil_append, List.cons_append, Option.toList_some, Option.toList_none, forall_const, false_implies, true_implies, false_or, or_false, true_or, or_true, i_le, i_lt, i_eq, i_eq0, i_lt0, i_0le, i_0lt, i_le0, i_in1, i_cl, nI_add, pk_mul, pk_sub, i_div, i_rem, i_sh1, i_bit, i_or, i_and, i_andn, nt_le, nf_le, nt_lt, nf_lt, nt_eq, nf_eq, not_true_eq_false, and_self, and_false, false_and, eq_self, Bool.toNat_true, Bool.toNat_false, i_bool, i_bool1, Bool.false_eq_true, Bool.true_eq_false, reduceCtorEq, i_neg1, i_neg2, i_neg3, i_neg4, i_neg5, i_neg6, i_neg7, i_neg8, i_neg9, i_nega, i_negb, i_negc, i_max2, i_min2, hn])
      refine c_need0 hm hn5 ?_
      try simp (disch := omega) only [no0, no1, nz1, nz2, nz3, nz4, nz5, nz7, nz8, Classical.not_not, bz0, bz1, wi_nil, ld_0, ld_s, isIv_I, isLv_L, isRv_R, true_and, and_true, lset_0, lset_1, lset_s, avw_I, avw_L, avw_R, clr_cons, clr_nil, kst_0, kst_1, kstL_0, kstL_1, addk_I, pA_0, pA_s, pD_0, pD_s, wid_nil, wid_cons, rcv_c, putv_I, putv_L, List.length_cons, List.length_nil, List.set_cons_zero, List.set_cons_succ, not_false_eq_true, Nat.reduceMod, Nat.reduceDiv, Nat.reduceEqDiff, Nat.reduceLT, Nat.reduceLeDiff, Nat.reduceAdd, Nat.reduceSub, reduceIte, Nat.lt_irrefl, Nat.zero_ne_one, Nat.one_ne_zero, Nat.zero_add, List.nil_append, List.cons_append, Option.toList_some, Option.toList_none, forall_const, false_implies, true_implies, false_or, or_false, true_or, or_true, i_le, i_lt, i_eq, i_eq0, i_lt0, i_0le, i_0lt, i_le0, i_in1, i_cl, nI_add, pk_mul, pk_sub, i_div, i_rem, i_sh1, i_bit, i_or, i_and, i_andn, nt_le, nf_le, nt_lt, nf_lt, nt_eq, nf_eq, not_true_eq_false, and_self, and_false, false_and, eq_self, Bool.toNat_true, Bool.toNat_false, i_bool, i_bool1, Bool.false_eq_true, Bool.true_eq_false, reduceCtorEq, i_neg1, i_neg2, i_neg3, i_neg4, i_neg5, i_neg6, i_neg7, i_neg8, i_neg9, i_nega, i_negb, i_negc, i_max2, i_min2, wi_nil]
      repeat (
        first
        | refine s_X9_plan_0 ?_
        | refine s_X9_plan_7 ?_
        | refine s_X9_plan_14 ?_
        | refine s_X9_plan_21 ?_
        | refine s_X9_plan_22 ?_
        | refine s_X9_plan_25 ?_
        | refine s_X9_plan_32 ?_
        | refine s_X9_plan_61 ?_
        | refine s_X9_plan_84 ?_
        | refine s_X9_plan_98 ?_
        | refine s_X9_plan_100 ?_
        | refine s_X9_plan_114 ?_
        | refine s_X9_plan_116 ?_
        | refine s_X9_plan_124 ?_
        | refine s_X9_plan_131 ?_
        | refine s_X9_plan_173 ?_
        simp (disch := omega) only [B_X9_plan_0, wi_aload_n, wi_iload_n, wi_iconst, wi_invokestatic, B_X9_plan_7, wi_if_eq, B_X9_plan_14, wi_goto, B_X9_plan_21, B_X9_plan_22, wi_invokevirtual, cnt_8, B_X9_plan_25, wi_istore_n, wi_if_ge, wi_ireturn, B_X9_plan_32, wi_istore, B_X9_plan_38, wi_iload, wi_icmp_ge, wi_getfield, fldv_8_10, fds_8_10, wi_ishl, wi_imul, wi_iinc, B_X9_plan_61, B_X9_plan_70, B_X9_plan_84, wi_icmp_le, B_X9_plan_98, B_X9_plan_100, B_X9_plan_114, B_X9_plan_116, B_X9_plan_124, B_X9_plan_131, wi_pop, fldv_8_5, fds_8_5, wi_iastore, cnt_31, aTy_31, aLn_31, arr_31, cnt_32, aTy_32, aLn_32, arr_32, cnt_47, aTy_47, aLn_47, arr_47, B_X9_plan_142, fldv_8_6, fds_8_6, wi_bipush, wi_iadd, fldv_8_28, fds_8_28, wi_iaload, B_X9_plan_173, no0, no1, nz1, nz2, nz3, nz4, nz5, nz7, nz8, Classical.not_not, bz0, bz1, wi_nil, ld_0, ld_s, isIv_I, isLv_L, isRv_R, true_and, and_true, lset_0, lset_1, lset_s, avw_I, avw_L, avw_R, clr_cons, clr_nil, kst_0, kst_1, kstL_0, kstL_1, addk_I, pA_0, pA_s, pD_0, pD_s, wid_nil, wid_cons, rcv_c, putv_I, putv_L, List.length_cons, List.length_nil, List.set_cons_zero, List.set_cons_succ, not_false_eq_true, Nat.reduceMod, Nat.reduceDiv, Nat.reduceEqDiff, Nat.reduceLT, Nat.reduceLeDiff, Nat.reduceAdd, Nat.reduceSub, reduceIte, Nat.lt_irrefl, Nat.zero_ne_one, Nat.one_ne_zero, Nat.zero_add, List.nil_append, List.cons_append, Option.toList_some, Option.toList_none, forall_const, false_implies, true_implies, false_or, or_false, true_or, or_true, i_le, i_lt, i_eq, i_eq0, i_lt0, i_0le, i_0lt, i_le0, i_in1, i_cl, nI_add, pk_mul, pk_sub, i_div, i_rem, i_sh1, i_bit, i_or, i_and, i_andn, nt_le, nf_le, nt_lt, nf_lt, nt_eq, nf_eq, not_true_eq_false, and_self, and_false, false_and, eq_self, Bool.toNat_true, Bool.toNat_false, i_bool, i_bool1, Bool.false_eq_true, Bool.true_eq_false, reduceCtorEq, i_neg1, i_neg2, i_neg3, i_neg4, i_neg5, i_neg6, i_neg7, i_neg8, i_neg9, i_nega, i_negb, i_negc, i_max2, i_min2])
      exact pm h
    rcases off_gt (N := 3) (by decide) hn with a | ⟨a, -, b⟩
    · refine x_entry (ls2 := [aR 7 0, aI n, aI r, aU, aU]) (Nat.le_of_ble_eq_true rfl) pl_8 rfl (Nat.le_of_ble_eq_true rfl) ?_
      try simp (disch := omega) only [no0, no1, nz1, nz2, nz3, nz4, nz5, nz7, nz8, Classical.not_not, bz0, bz1, wi_nil, ld_0, ld_s, isIv_I, isLv_L, isRv_R, true_and, and_true, lset_0, lset_1, lset_s, avw_I, avw_L, avw_R, clr_cons, clr_nil, kst_0, kst_1, kstL_0, kstL_1, addk_I, pA_0, pA_s, pD_0, pD_s, wid_nil, wid_cons, rcv_c, putv_I, putv_L, List.length_cons, List.length_nil, List.set_cons_zero, List.set_cons_succ, not_false_eq_true, Nat.reduceMod, Nat.reduceDiv, Nat.reduceEqDiff, Nat.reduceLT, Nat.reduceLeDiff, Nat.reduceAdd, Nat.reduceSub, reduceIte, Nat.lt_irrefl, Nat.zero_ne_one, Nat.one_ne_zero, Nat.zero_add, List.nil_append, List.cons_append, Option.toList_some, Option.toList_none, forall_const, false_implies, true_implies, false_or, or_false, true_or, or_true, i_le, i_lt, i_eq, i_eq0, i_lt0, i_0le, i_0lt, i_le0, i_in1, i_cl, nI_add, pk_mul, pk_sub, i_div, i_rem, i_sh1, i_bit, i_or, i_and, i_andn, nt_le, nf_le, nt_lt, nf_lt, nt_eq, nf_eq, not_true_eq_false, and_self, and_false, false_and, eq_self, Bool.toNat_true, Bool.toNat_false, i_bool, i_bool1, Bool.false_eq_true, Bool.true_eq_false, reduceCtorEq, i_neg1, i_neg2, i_neg3, i_neg4, i_neg5, i_neg6, i_neg7, i_neg8, i_neg9, i_nega, i_negb, i_negc, i_max2, i_min2, a, wi_nil]
      repeat (
        first
        | refine s_X8_plan_0 ?_
        | refine s_X8_plan_13 ?_
        | refine s_X8_plan_16 ?_
        | refine s_X8_plan_18 ?_
        | refine s_X8_plan_31 ?_
        | refine s_X8_plan_43 ?_
        | refine s_X8_plan_53 ?_
        | refine s_X8_plan_82 ?_
        | refine s_X8_plan_88 ?_
        simp (disch := omega) only [B_X8_plan_0, wi_iload_n, wi_if_lt, wi_iconst, wi_icmp_gt, wi_invokestatic, B_X8_plan_13, wi_if_ne, B_X8_plan_16, wi_ireturn, B_X8_plan_18, wi_aload_n, wi_getfield, fldv_7_3, fds_7_3, cnt_7, fldv_6_7, fds_6_7, cnt_6, wi_bipush, B_X8_plan_31, fldv_7_7, fds_7_7, wi_invokevirtual, cnt_1, B_X8_plan_43, wi_istore_n, fldv_7_0, fds_7_0, cnt_3, B_X8_plan_53, wi_istore, B_X8_plan_56, wi_iload, wi_icmp_ge, fldv_1_3, fds_1_3, wi_iaload, cnt_14, aTy_14, aLn_14, arr_14, B_X8_plan_82, wi_iinc, wi_goto, B_X8_plan_88, no0, no1, nz1, nz2, nz3, nz4, nz5, nz7, nz8, Classical.not_not, bz0, bz1, wi_nil, ld_0, ld_s, isIv_I, isLv_L, isRv_R, true_and, and_true, lset_0, lset_1, lset_s, avw_I, avw_L, avw_R, clr_cons, clr_nil, kst_0, kst_1, kstL_0, kstL_1, addk_I, pA_0, pA_s, pD_0, pD_s, wid_nil, wid_cons, rcv_c, putv_I, putv_L, List.length_cons, List.length_nil, List.set_cons_zero, List.set_cons_succ, not_false_eq_true, Nat.reduceMod, Nat.reduceDiv, Nat.reduceEqDiff, Nat.reduceLT, Nat.reduceLeDiff, Nat.reduceAdd, Nat.reduceSub, reduceIte, Nat.lt_irrefl, Nat.zero_ne_one, Nat.one_ne_zero, Nat.zero_add, List.nil_append, List.cons_append, Option.toList_some, Option.toList_none, forall_const, false_implies, true_implies, false_or, or_false, true_or, or_true, i_le, i_lt, i_eq, i_eq0, i_lt0, i_0le, i_0lt, i_le0, i_in1, i_cl, nI_add, pk_mul, pk_sub, i_div, i_rem, i_sh1, i_bit, i_or, i_and, i_andn, nt_le, nf_le, nt_lt, nf_lt, nt_eq, nf_eq, not_true_eq_false, and_self, and_false, false_and, eq_self, Bool.toNat_true, Bool.toNat_false, i_bool, i_bool1, Bool.false_eq_true, Bool.true_eq_false, reduceCtorEq, i_neg1, i_neg2, i_neg3, i_neg4, i_neg5, i_neg6, i_neg7, i_neg8, i_neg9, i_nega, i_negb, i_negc, i_max2, i_min2, a])
      exact px key
    · refine x_entry (ls2 := [aR 7 0, aI n, aI r, aU, aU]) (Nat.le_of_ble_eq_true rfl) pl_8 rfl (Nat.le_of_ble_eq_true rfl) ?_
      try simp (disch := omega) only [no0, no1, nz1, nz2, nz3, nz4, nz5, nz7, nz8, Classical.not_not, bz0, bz1, wi_nil, ld_0, ld_s, isIv_I, isLv_L, isRv_R, true_and, and_true, lset_0, lset_1, lset_s, avw_I, avw_L, avw_R, clr_cons, clr_nil, kst_0, kst_1, kstL_0, kstL_1, addk_I, pA_0, pA_s, pD_0, pD_s, wid_nil, wid_cons, rcv_c, putv_I, putv_L, List.length_cons, List.length_nil, List.set_cons_zero, List.set_cons_succ, not_false_eq_true, Nat.reduceMod, Nat.reduceDiv, Nat.reduceEqDiff, Nat.reduceLT, Nat.reduceLeDiff, Nat.reduceAdd, Nat.reduceSub, reduceIte, Nat.lt_irrefl, Nat.zero_ne_one, Nat.one_ne_zero, Nat.zero_add, List.nil_append, List.cons_append, Option.toList_some, Option.toList_none, forall_const, false_implies, true_implies, false_or, or_false, true_or, or_true, i_le, i_lt, i_eq, i_eq0, i_lt0, i_0le, i_0lt, i_le0, i_in1, i_cl, nI_add, pk_mul, pk_sub, i_div, i_rem, i_sh1, i_bit, i_or, i_and, i_andn, nt_le, nf_le, nt_lt, nf_lt, nt_eq, nf_eq, not_true_eq_false, and_self, and_false, false_and, eq_self, Bool.toNat_true, Bool.toNat_false, i_bool, i_bool1, Bool.false_eq_true, Bool.true_eq_false, reduceCtorEq, i_neg1, i_neg2, i_neg3, i_neg4, i_neg5, i_neg6, i_neg7, i_neg8, i_neg9, i_nega, i_negb, i_negc, i_max2, i_min2, a, b, wi_nil]
      repeat (
        first
        | refine s_X8_plan_0 ?_
        | refine s_X8_plan_13 ?_
        | refine s_X8_plan_16 ?_
        | refine s_X8_plan_18 ?_
        | refine s_X8_plan_31 ?_
        | refine s_X8_plan_43 ?_
        | refine s_X8_plan_53 ?_
        | refine s_X8_plan_82 ?_
        | refine s_X8_plan_88 ?_
        simp (disch := omega) only [B_X8_plan_0, wi_iload_n, wi_if_lt, wi_iconst, wi_icmp_gt, wi_invokestatic, B_X8_plan_13, wi_if_ne, B_X8_plan_16, wi_ireturn, B_X8_plan_18, wi_aload_n, wi_getfield, fldv_7_3, fds_7_3, cnt_7, fldv_6_7, fds_6_7, cnt_6, wi_bipush, B_X8_plan_31, fldv_7_7, fds_7_7, wi_invokevirtual, cnt_1, B_X8_plan_43, wi_istore_n, fldv_7_0, fds_7_0, cnt_3, B_X8_plan_53, wi_istore, B_X8_plan_56, wi_iload, wi_icmp_ge, fldv_1_3, fds_1_3, wi_iaload, cnt_14, aTy_14, aLn_14, arr_14, B_X8_plan_82, wi_iinc, wi_goto, B_X8_plan_88, no0, no1, nz1, nz2, nz3, nz4, nz5, nz7, nz8, Classical.not_not, bz0, bz1, wi_nil, ld_0, ld_s, isIv_I, isLv_L, isRv_R, true_and, and_true, lset_0, lset_1, lset_s, avw_I, avw_L, avw_R, clr_cons, clr_nil, kst_0, kst_1, kstL_0, kstL_1, addk_I, pA_0, pA_s, pD_0, pD_s, wid_nil, wid_cons, rcv_c, putv_I, putv_L, List.length_cons, List.length_nil, List.set_cons_zero, List.set_cons_succ, not_false_eq_true, Nat.reduceMod, Nat.reduceDiv, Nat.reduceEqDiff, Nat.reduceLT, Nat.reduceLeDiff, Nat.reduceAdd, Nat.reduceSub, reduceIte, Nat.lt_irrefl, Nat.zero_ne_one, Nat.one_ne_zero, Nat.zero_add, List.nil_append, List.cons_append, Option.toList_some, Option.toList_none, forall_const, false_implies, true_implies, false_or, or_false, true_or, or_true, i_le, i_lt, i_eq, i_eq0, i_lt0, i_0le, i_0lt, i_le0, i_in1, i_cl, nI_add, pk_mul, pk_sub, i_div, i_rem, i_sh1, i_bit, i_or, i_and, i_andn, nt_le, nf_le, nt_lt, nf_lt, nt_eq, nf_eq, not_true_eq_false, and_self, and_false, false_and, eq_self, Bool.toNat_true, Bool.toNat_false, i_bool, i_bool1, Bool.false_eq_true, Bool.true_eq_false, reduceCtorEq, i_neg1, i_neg2, i_neg3, i_neg4, i_neg5, i_neg6, i_neg7, i_neg8, i_neg9, i_nega, i_negb, i_negc, i_max2, i_min2, a, b])
      exact px key
  · obtain ⟨n, hn4, rfl⟩ := inb_nat hn
    cases hr : inB r 6
    · refine x_entry (ls2 := [aR 7 0, aI (nI n), aI r, aU, aU]) (Nat.le_of_ble_eq_true rfl) pl_8 rfl (Nat.le_of_ble_eq_true rfl) ?_
      try simp (disch := omega) only [no0, no1, nz1, nz2, nz3, nz4, nz5, nz7, nz8, Classical.not_not, bz0, bz1, wi_nil, ld_0, ld_s, isIv_I, isLv_L, isRv_R, true_and, and_true, lset_0, lset_1, lset_s, avw_I, avw_L, avw_R, clr_cons, clr_nil, kst_0, kst_1, kstL_0, kstL_1, addk_I, pA_0, pA_s, pD_0, pD_s, wid_nil, wid_cons, rcv_c, putv_I, putv_L, List.length_cons, List.length_nil, List.set_cons_zero, List.set_cons_succ, not_false_eq_true, Nat.reduceMod, Nat.reduceDiv, Nat.reduceEqDiff, Nat.reduceLT, Nat.reduceLeDiff, Nat.reduceAdd, Nat.reduceSub, reduceIte, Nat.lt_irrefl, Nat.zero_ne_one, Nat.one_ne_zero, Nat.zero_add, List.nil_append, List.cons_append, Option.toList_some, Option.toList_none, forall_const, false_implies, true_implies, false_or, or_false, true_or, or_true, i_le, i_lt, i_eq, i_eq0, i_lt0, i_0le, i_0lt, i_le0, i_in1, i_cl, nI_add, pk_mul, pk_sub, i_div, i_rem, i_sh1, i_bit, i_or, i_and, i_andn, nt_le, nf_le, nt_lt, nf_lt, nt_eq, nf_eq, not_true_eq_false, and_self, and_false, false_and, eq_self, Bool.toNat_true, Bool.toNat_false, i_bool, i_bool1, Bool.false_eq_true, Bool.true_eq_false, reduceCtorEq, i_neg1, i_neg2, i_neg3, i_neg4, i_neg5, i_neg6, i_neg7, i_neg8, i_neg9, i_nega, i_negb, i_negc, i_max2, i_min2, wi_nil]
      repeat (
        first
        | refine s_X8_plan_0 ?_
        | refine s_X8_plan_13 ?_
        | refine s_X8_plan_16 ?_
        | refine s_X8_plan_18 ?_
        | refine s_X8_plan_31 ?_
        | refine s_X8_plan_43 ?_
        | refine s_X8_plan_53 ?_
        | refine s_X8_plan_82 ?_
        | refine s_X8_plan_88 ?_
        simp (disch := omega) only [B_X8_plan_0, wi_iload_n, wi_if_lt, wi_iconst, wi_icmp_gt, wi_invokestatic, B_X8_plan_13, wi_if_ne, B_X8_plan_16, wi_ireturn, B_X8_plan_18, wi_aload_n, wi_getfield, fldv_7_3, fds_7_3, cnt_7, fldv_6_7, fds_6_7, cnt_6, wi_bipush, B_X8_plan_31, fldv_7_7, fds_7_7, wi_invokevirtual, cnt_1, B_X8_plan_43, wi_istore_n, fldv_7_0, fds_7_0, cnt_3, B_X8_plan_53, wi_istore, B_X8_plan_56, wi_iload, wi_icmp_ge, fldv_1_3, fds_1_3, wi_iaload, cnt_14, aTy_14, aLn_14, arr_14, B_X8_plan_82, wi_iinc, wi_goto, B_X8_plan_88, no0, no1, nz1, nz2, nz3, nz4, nz5, nz7, nz8, Classical.not_not, bz0, bz1, wi_nil, ld_0, ld_s, isIv_I, isLv_L, isRv_R, true_and, and_true, lset_0, lset_1, lset_s, avw_I, avw_L, avw_R, clr_cons, clr_nil, kst_0, kst_1, kstL_0, kstL_1, addk_I, pA_0, pA_s, pD_0, pD_s, wid_nil, wid_cons, rcv_c, putv_I, putv_L, List.length_cons, List.length_nil, List.set_cons_zero, List.set_cons_succ, not_false_eq_true, Nat.reduceMod, Nat.reduceDiv, Nat.reduceEqDiff, Nat.reduceLT, Nat.reduceLeDiff, Nat.reduceAdd, Nat.reduceSub, reduceIte, Nat.lt_irrefl, Nat.zero_ne_one, Nat.one_ne_zero, Nat.zero_add, List.nil_append, List.cons_append, Option.toList_some, Option.toList_none, forall_const, false_implies, true_implies, false_or, or_false, true_or, or_true, i_le, i_lt, i_eq, i_eq0, i_lt0, i_0le, i_0lt, i_le0, i_in1, i_cl, nI_add, pk_mul, pk_sub, i_div, i_rem, i_sh1, i_bit, i_or, i_and, i_andn, nt_le, nf_le, nt_lt, nf_lt, nt_eq, nf_eq, not_true_eq_false, and_self, and_false, false_and, eq_self, Bool.toNat_true, Bool.toNat_false, i_bool, i_bool1, Bool.false_eq_true, Bool.true_eq_false, reduceCtorEq, i_neg1, i_neg2, i_neg3, i_neg4, i_neg5, i_neg6, i_neg7, i_neg8, i_neg9, i_nega, i_negb, i_negc, i_max2, i_min2])
      refine c_isRow ?_
      try simp (disch := omega) only [no0, no1, nz1, nz2, nz3, nz4, nz5, nz7, nz8, Classical.not_not, bz0, bz1, wi_nil, ld_0, ld_s, isIv_I, isLv_L, isRv_R, true_and, and_true, lset_0, lset_1, lset_s, avw_I, avw_L, avw_R, clr_cons, clr_nil, kst_0, kst_1, kstL_0, kstL_1, addk_I, pA_0, pA_s, pD_0, pD_s, wid_nil, wid_cons, rcv_c, putv_I, putv_L, List.length_cons, List.length_nil, List.set_cons_zero, List.set_cons_succ, not_false_eq_true, Nat.reduceMod, Nat.reduceDiv, Nat.reduceEqDiff, Nat.reduceLT, Nat.reduceLeDiff, Nat.reduceAdd, Nat.reduceSub, reduceIte, Nat.lt_irrefl, Nat.zero_ne_one, Nat.one_ne_zero, Nat.zero_add, List.nil_append, List.cons_append, Option.toList_some, Option.toList_none, forall_const, false_implies, true_implies, false_or, or_false, true_or, or_true, i_le, i_lt, i_eq, i_eq0, i_lt0, i_0le, i_0lt, i_le0, i_in1, i_cl, nI_add, pk_mul, pk_sub, i_div, i_rem, i_sh1, i_bit, i_or, i_and, i_andn, nt_le, nf_le, nt_lt, nf_lt, nt_eq, nf_eq, not_true_eq_false, and_self, and_false, false_and, eq_self, Bool.toNat_true, Bool.toNat_false, i_bool, i_bool1, Bool.false_eq_true, Bool.true_eq_false, reduceCtorEq, i_neg1, i_neg2, i_neg3, i_neg4, i_neg5, i_neg6, i_neg7, i_neg8, i_neg9, i_nega, i_negb, i_negc, i_max2, i_min2, hr, wi_nil]
      repeat (
        first
        | refine s_X8_plan_0 ?_
        | refine s_X8_plan_13 ?_
        | refine s_X8_plan_16 ?_
        | refine s_X8_plan_18 ?_
        | refine s_X8_plan_31 ?_
        | refine s_X8_plan_43 ?_
        | refine s_X8_plan_53 ?_
        | refine s_X8_plan_82 ?_
        | refine s_X8_plan_88 ?_
        simp (disch := omega) only [B_X8_plan_0, wi_iload_n, wi_if_lt, wi_iconst, wi_icmp_gt, wi_invokestatic, B_X8_plan_13, wi_if_ne, B_X8_plan_16, wi_ireturn, B_X8_plan_18, wi_aload_n, wi_getfield, fldv_7_3, fds_7_3, cnt_7, fldv_6_7, fds_6_7, cnt_6, wi_bipush, B_X8_plan_31, fldv_7_7, fds_7_7, wi_invokevirtual, cnt_1, B_X8_plan_43, wi_istore_n, fldv_7_0, fds_7_0, cnt_3, B_X8_plan_53, wi_istore, B_X8_plan_56, wi_iload, wi_icmp_ge, fldv_1_3, fds_1_3, wi_iaload, cnt_14, aTy_14, aLn_14, arr_14, B_X8_plan_82, wi_iinc, wi_goto, B_X8_plan_88, no0, no1, nz1, nz2, nz3, nz4, nz5, nz7, nz8, Classical.not_not, bz0, bz1, wi_nil, ld_0, ld_s, isIv_I, isLv_L, isRv_R, true_and, and_true, lset_0, lset_1, lset_s, avw_I, avw_L, avw_R, clr_cons, clr_nil, kst_0, kst_1, kstL_0, kstL_1, addk_I, pA_0, pA_s, pD_0, pD_s, wid_nil, wid_cons, rcv_c, putv_I, putv_L, List.length_cons, List.length_nil, List.set_cons_zero, List.set_cons_succ, not_false_eq_true, Nat.reduceMod, Nat.reduceDiv, Nat.reduceEqDiff, Nat.reduceLT, Nat.reduceLeDiff, Nat.reduceAdd, Nat.reduceSub, reduceIte, Nat.lt_irrefl, Nat.zero_ne_one, Nat.one_ne_zero, Nat.zero_add, List.nil_append, List.cons_append, Option.toList_some, Option.toList_none, forall_const, false_implies, true_implies, false_or, or_false, true_or, or_true, i_le, i_lt, i_eq, i_eq0, i_lt0, i_0le, i_0lt, i_le0, i_in1, i_cl, nI_add, pk_mul, pk_sub, i_div, i_rem, i_sh1, i_bit, i_or, i_and, i_andn, nt_le, nf_le, nt_lt, nf_lt, nt_eq, nf_eq, not_true_eq_false, and_self, and_false, false_and, eq_self, Bool.toNat_true, Bool.toNat_false, i_bool, i_bool1, Bool.false_eq_true, Bool.true_eq_false, reduceCtorEq, i_neg1, i_neg2, i_neg3, i_neg4, i_neg5, i_neg6, i_neg7, i_neg8, i_neg9, i_nega, i_negb, i_negc, i_max2, i_min2, hr])
      refine px ?_
      refine x_entry (ls2 := [aR 8 0, aI (nI n), aI r, aU, aU, aU, aU, aU, aU]) (Nat.le_of_ble_eq_true rfl) pl_9 rfl (Nat.le_of_ble_eq_true rfl) ?_
      try simp (disch := omega) only [no0, no1, nz1, nz2, nz3, nz4, nz5, nz7, nz8, Classical.not_not, bz0, bz1, wi_nil, ld_0, ld_s, isIv_I, isLv_L, isRv_R, true_and, and_true, lset_0, lset_1, lset_s, avw_I, avw_L, avw_R, clr_cons, clr_nil, kst_0, kst_1, kstL_0, kstL_1, addk_I, pA_0, pA_s, pD_0, pD_s, wid_nil, wid_cons, rcv_c, putv_I, putv_L, List.length_cons, List.length_nil, List.set_cons_zero, List.set_cons_succ, not_false_eq_true, Nat.reduceMod, Nat.reduceDiv, Nat.reduceEqDiff, Nat.reduceLT, Nat.reduceLeDiff, Nat.reduceAdd, Nat.reduceSub, reduceIte, Nat.lt_irrefl, Nat.zero_ne_one, Nat.one_ne_zero, Nat.zero_add, List.nil_append, List.cons_append, Option.toList_some, Option.toList_none, forall_const, false_implies, true_implies, false_or, or_false, true_or, or_true, i_le, i_lt, i_eq, i_eq0, i_lt0, i_0le, i_0lt, i_le0, i_in1, i_cl, nI_add, pk_mul, pk_sub, i_div, i_rem, i_sh1, i_bit, i_or, i_and, i_andn, nt_le, nf_le, nt_lt, nf_lt, nt_eq, nf_eq, not_true_eq_false, and_self, and_false, false_and, eq_self, Bool.toNat_true, Bool.toNat_false, i_bool, i_bool1, Bool.false_eq_true, Bool.true_eq_false, reduceCtorEq, i_neg1, i_neg2, i_neg3, i_neg4, i_neg5, i_neg6, i_neg7, i_neg8, i_neg9, i_nega, i_negb, i_negc, i_max2, i_min2, wi_nil]
      repeat (
        first
        | refine s_X9_plan_0 ?_
        | refine s_X9_plan_7 ?_
        | refine s_X9_plan_14 ?_
        | refine s_X9_plan_21 ?_
        | refine s_X9_plan_22 ?_
        | refine s_X9_plan_25 ?_
        | refine s_X9_plan_32 ?_
        | refine s_X9_plan_61 ?_
        | refine s_X9_plan_84 ?_
        | refine s_X9_plan_98 ?_
        | refine s_X9_plan_100 ?_
        | refine s_X9_plan_114 ?_
        | refine s_X9_plan_116 ?_
        | refine s_X9_plan_124 ?_
        | refine s_X9_plan_131 ?_
        | refine s_X9_plan_173 ?_
        simp (disch := omega) only [B_X9_plan_0, wi_aload_n, wi_iload_n, wi_iconst, wi_invokestatic, B_X9_plan_7, wi_if_eq, B_X9_plan_14, wi_goto, B_X9_plan_21, B_X9_plan_22, wi_invokevirtual, cnt_8, B_X9_plan_25, wi_istore_n, wi_if_ge, wi_ireturn, B_X9_plan_32, wi_istore, B_X9_plan_38, wi_iload, wi_icmp_ge, wi_getfield, fldv_8_10, fds_8_10, wi_ishl, wi_imul, wi_iinc, B_X9_plan_61, B_X9_plan_70, B_X9_plan_84, wi_icmp_le, B_X9_plan_98, B_X9_plan_100, B_X9_plan_114, B_X9_plan_116, B_X9_plan_124, B_X9_plan_131, wi_pop, fldv_8_5, fds_8_5, wi_iastore, cnt_31, aTy_31, aLn_31, arr_31, cnt_32, aTy_32, aLn_32, arr_32, cnt_47, aTy_47, aLn_47, arr_47, B_X9_plan_142, fldv_8_6, fds_8_6, wi_bipush, wi_iadd, fldv_8_28, fds_8_28, wi_iaload, B_X9_plan_173, no0, no1, nz1, nz2, nz3, nz4, nz5, nz7, nz8, Classical.not_not, bz0, bz1, wi_nil, ld_0, ld_s, isIv_I, isLv_L, isRv_R, true_and, and_true, lset_0, lset_1, lset_s, avw_I, avw_L, avw_R, clr_cons, clr_nil, kst_0, kst_1, kstL_0, kstL_1, addk_I, pA_0, pA_s, pD_0, pD_s, wid_nil, wid_cons, rcv_c, putv_I, putv_L, List.length_cons, List.length_nil, List.set_cons_zero, List.set_cons_succ, not_false_eq_true, Nat.reduceMod, Nat.reduceDiv, Nat.reduceEqDiff, Nat.reduceLT, Nat.reduceLeDiff, Nat.reduceAdd, Nat.reduceSub, reduceIte, Nat.lt_irrefl, Nat.zero_ne_one, Nat.one_ne_zero, Nat.zero_add, List.nil_append, List.cons_append, Option.toList_some, Option.toList_none, forall_const, false_implies, true_implies, false_or, or_false, true_or, or_true, i_le, i_lt, i_eq, i_eq0, i_lt0, i_0le, i_0lt, i_le0, i_in1, i_cl, nI_add, pk_mul, pk_sub, i_div, i_rem, i_sh1, i_bit, i_or, i_and, i_andn, nt_le, nf_le, nt_lt, nf_lt, nt_eq, nf_eq, not_true_eq_false, and_self, and_false, false_and, eq_self, Bool.toNat_true, Bool.toNat_false, i_bool, i_bool1, Bool.false_eq_true, Bool.true_eq_false, reduceCtorEq, i_neg1, i_neg2, i_neg3, i_neg4, i_neg5, i_neg6, i_neg7, i_neg8, i_neg9, i_nega, i_negb, i_negc, i_max2, i_min2])
      refine c_in (inb_le (N := 3) (by decide)) ?_
      try simp (disch := omega) only [no0, no1, nz1, nz2, nz3, nz4, nz5, nz7, nz8, Classical.not_not, bz0, bz1, wi_nil, ld_0, ld_s, isIv_I, isLv_L, isRv_R, true_and, and_true, lset_0, lset_1, lset_s, avw_I, avw_L, avw_R, clr_cons, clr_nil, kst_0, kst_1, kstL_0, kstL_1, addk_I, pA_0, pA_s, pD_0, pD_s, wid_nil, wid_cons, rcv_c, putv_I, putv_L, List.length_cons, List.length_nil, List.set_cons_zero, List.set_cons_succ, not_false_eq_true, Nat.reduceMod, Nat.reduceDiv, Nat.reduceEqDiff, Nat.reduceLT, Nat.reduceLeDiff, Nat.reduceAdd, Nat.reduceSub, reduceIte, Nat.lt_irrefl, Nat.zero_ne_one, Nat.one_ne_zero, Nat.zero_add, List.nil_append, List.cons_append, Option.toList_some, Option.toList_none, forall_const, false_implies, true_implies, false_or, or_false, true_or, or_true, i_le, i_lt, i_eq, i_eq0, i_lt0, i_0le, i_0lt, i_le0, i_in1, i_cl, nI_add, pk_mul, pk_sub, i_div, i_rem, i_sh1, i_bit, i_or, i_and, i_andn, nt_le, nf_le, nt_lt, nf_lt, nt_eq, nf_eq, not_true_eq_false, and_self, and_false, false_and, eq_self, Bool.toNat_true, Bool.toNat_false, i_bool, i_bool1, Bool.false_eq_true, Bool.true_eq_false, reduceCtorEq, i_neg1, i_neg2, i_neg3, i_neg4, i_neg5, i_neg6, i_neg7, i_neg8, i_neg9, i_nega, i_negb, i_negc, i_max2, i_min2, hn, wi_nil]
      repeat (
        first
        | refine s_X9_plan_0 ?_
        | refine s_X9_plan_7 ?_
        | refine s_X9_plan_14 ?_
        | refine s_X9_plan_21 ?_
        | refine s_X9_plan_22 ?_
        | refine s_X9_plan_25 ?_
        | refine s_X9_plan_32 ?_
        | refine s_X9_plan_61 ?_
        | refine s_X9_plan_84 ?_
        | refine s_X9_plan_98 ?_
        | refine s_X9_plan_100 ?_
        | refine s_X9_plan_114 ?_
        | refine s_X9_plan_116 ?_
        | refine s_X9_plan_124 ?_
        | refine s_X9_plan_131 ?_
        | refine s_X9_plan_173 ?_
        simp (disch := omega) only [B_X9_plan_0, wi_aload_n, wi_iload_n, wi_iconst, wi_invokestatic, B_X9_plan_7, wi_if_eq, B_X9_plan_14, wi_goto, B_X9_plan_21, B_X9_plan_22, wi_invokevirtual, cnt_8, B_X9_plan_25, wi_istore_n, wi_if_ge, wi_ireturn, B_X9_plan_32, wi_istore, B_X9_plan_38, wi_iload, wi_icmp_ge, wi_getfield, fldv_8_10, fds_8_10, wi_ishl, wi_imul, wi_iinc, B_X9_plan_61, B_X9_plan_70, B_X9_plan_84, wi_icmp_le, B_X9_plan_98, B_X9_plan_100, B_X9_plan_114, B_X9_plan_116, B_X9_plan_124, B_X9_plan_131, wi_pop, fldv_8_5, fds_8_5, wi_iastore, cnt_31, aTy_31, aLn_31, arr_31, cnt_32, aTy_32, aLn_32, arr_32, cnt_47, aTy_47, aLn_47, arr_47, B_X9_plan_142, fldv_8_6, fds_8_6, wi_bipush, wi_iadd, fldv_8_28, fds_8_28, wi_iaload, B_X9_plan_173, no0, no1, nz1, nz2, nz3, nz4, nz5, nz7, nz8, Classical.not_not, bz0, bz1, wi_nil, ld_0, ld_s, isIv_I, isLv_L, isRv_R, true_and, and_true, lset_0, lset_1, lset_s, avw_I, avw_L, avw_R, clr_cons, clr_nil, kst_0, kst_1, kstL_0, kstL_1, addk_I, pA_0, pA_s, pD_0, pD_s, wid_nil, wid_cons, rcv_c, putv_I, putv_L, List.length_cons, List.length_nil, List.set_cons_zero, List.set_cons_succ, not_false_eq_true, Nat.reduceMod, Nat.reduceDiv, Nat.reduceEqDiff, Nat.reduceLT, Nat.reduceLeDiff, Nat.reduceAdd, Nat.reduceSub, reduceIte, Nat.lt_irrefl, Nat.zero_ne_one, Nat.one_ne_zero, Nat.zero_add, List.nil_append, List.cons_append, Option.toList_some, Option.toList_none, forall_const, false_implies, true_implies, false_or, or_false, true_or, or_true, i_le, i_lt, i_eq, i_eq0, i_lt0, i_0le, i_0lt, i_le0, i_in1, i_cl, nI_add, pk_mul, pk_sub, i_div, i_rem, i_sh1, i_bit, i_or, i_and, i_andn, nt_le, nf_le, nt_lt, nf_lt, nt_eq, nf_eq, not_true_eq_false, and_self, and_false, false_and, eq_self, Bool.toNat_true, Bool.toNat_false, i_bool, i_bool1, Bool.false_eq_true, Bool.true_eq_false, reduceCtorEq, i_neg1, i_neg2, i_neg3, i_neg4, i_neg5, i_neg6, i_neg7, i_neg8, i_neg9, i_nega, i_negb, i_negc, i_max2, i_min2, hn])
      refine c_mRow ?_
      try simp (disch := omega) only [no0, no1, nz1, nz2, nz3, nz4, nz5, nz7, nz8, Classical.not_not, bz0, bz1, wi_nil, ld_0, ld_s, isIv_I, isLv_L, isRv_R, true_and, and_true, lset_0, lset_1, lset_s, avw_I, avw_L, avw_R, clr_cons, clr_nil, kst_0, kst_1, kstL_0, kstL_1, addk_I, pA_0, pA_s, pD_0, pD_s, wid_nil, wid_cons, rcv_c, putv_I, putv_L, List.length_cons, List.length_nil, List.set_cons_zero, List.set_cons_succ, not_false_eq_true, Nat.reduceMod, Nat.reduceDiv, Nat.reduceEqDiff, Nat.reduceLT, Nat.reduceLeDiff, Nat.reduceAdd, Nat.reduceSub, reduceIte, Nat.lt_irrefl, Nat.zero_ne_one, Nat.one_ne_zero, Nat.zero_add, List.nil_append, List.cons_append, Option.toList_some, Option.toList_none, forall_const, false_implies, true_implies, false_or, or_false, true_or, or_true, i_le, i_lt, i_eq, i_eq0, i_lt0, i_0le, i_0lt, i_le0, i_in1, i_cl, nI_add, pk_mul, pk_sub, i_div, i_rem, i_sh1, i_bit, i_or, i_and, i_andn, nt_le, nf_le, nt_lt, nf_lt, nt_eq, nf_eq, not_true_eq_false, and_self, and_false, false_and, eq_self, Bool.toNat_true, Bool.toNat_false, i_bool, i_bool1, Bool.false_eq_true, Bool.true_eq_false, reduceCtorEq, i_neg1, i_neg2, i_neg3, i_neg4, i_neg5, i_neg6, i_neg7, i_neg8, i_neg9, i_nega, i_negb, i_negc, i_max2, i_min2, hr, wi_nil]
      repeat (
        first
        | refine s_X9_plan_0 ?_
        | refine s_X9_plan_7 ?_
        | refine s_X9_plan_14 ?_
        | refine s_X9_plan_21 ?_
        | refine s_X9_plan_22 ?_
        | refine s_X9_plan_25 ?_
        | refine s_X9_plan_32 ?_
        | refine s_X9_plan_61 ?_
        | refine s_X9_plan_84 ?_
        | refine s_X9_plan_98 ?_
        | refine s_X9_plan_100 ?_
        | refine s_X9_plan_114 ?_
        | refine s_X9_plan_116 ?_
        | refine s_X9_plan_124 ?_
        | refine s_X9_plan_131 ?_
        | refine s_X9_plan_173 ?_
        simp (disch := omega) only [B_X9_plan_0, wi_aload_n, wi_iload_n, wi_iconst, wi_invokestatic, B_X9_plan_7, wi_if_eq, B_X9_plan_14, wi_goto, B_X9_plan_21, B_X9_plan_22, wi_invokevirtual, cnt_8, B_X9_plan_25, wi_istore_n, wi_if_ge, wi_ireturn, B_X9_plan_32, wi_istore, B_X9_plan_38, wi_iload, wi_icmp_ge, wi_getfield, fldv_8_10, fds_8_10, wi_ishl, wi_imul, wi_iinc, B_X9_plan_61, B_X9_plan_70, B_X9_plan_84, wi_icmp_le, B_X9_plan_98, B_X9_plan_100, B_X9_plan_114, B_X9_plan_116, B_X9_plan_124, B_X9_plan_131, wi_pop, fldv_8_5, fds_8_5, wi_iastore, cnt_31, aTy_31, aLn_31, arr_31, cnt_32, aTy_32, aLn_32, arr_32, cnt_47, aTy_47, aLn_47, arr_47, B_X9_plan_142, fldv_8_6, fds_8_6, wi_bipush, wi_iadd, fldv_8_28, fds_8_28, wi_iaload, B_X9_plan_173, no0, no1, nz1, nz2, nz3, nz4, nz5, nz7, nz8, Classical.not_not, bz0, bz1, wi_nil, ld_0, ld_s, isIv_I, isLv_L, isRv_R, true_and, and_true, lset_0, lset_1, lset_s, avw_I, avw_L, avw_R, clr_cons, clr_nil, kst_0, kst_1, kstL_0, kstL_1, addk_I, pA_0, pA_s, pD_0, pD_s, wid_nil, wid_cons, rcv_c, putv_I, putv_L, List.length_cons, List.length_nil, List.set_cons_zero, List.set_cons_succ, not_false_eq_true, Nat.reduceMod, Nat.reduceDiv, Nat.reduceEqDiff, Nat.reduceLT, Nat.reduceLeDiff, Nat.reduceAdd, Nat.reduceSub, reduceIte, Nat.lt_irrefl, Nat.zero_ne_one, Nat.one_ne_zero, Nat.zero_add, List.nil_append, List.cons_append, Option.toList_some, Option.toList_none, forall_const, false_implies, true_implies, false_or, or_false, true_or, or_true, i_le, i_lt, i_eq, i_eq0, i_lt0, i_0le, i_0lt, i_le0, i_in1, i_cl, nI_add, pk_mul, pk_sub, i_div, i_rem, i_sh1, i_bit, i_or, i_and, i_andn, nt_le, nf_le, nt_lt, nf_lt, nt_eq, nf_eq, not_true_eq_false, and_self, and_false, false_and, eq_self, Bool.toNat_true, Bool.toNat_false, i_bool, i_bool1, Bool.false_eq_true, Bool.true_eq_false, reduceCtorEq, i_neg1, i_neg2, i_neg3, i_neg4, i_neg5, i_neg6, i_neg7, i_neg8, i_neg9, i_nega, i_negb, i_negc, i_max2, i_min2, hr])
      refine c_need0 hm hn5 ?_
      try simp (disch := omega) only [no0, no1, nz1, nz2, nz3, nz4, nz5, nz7, nz8, Classical.not_not, bz0, bz1, wi_nil, ld_0, ld_s, isIv_I, isLv_L, isRv_R, true_and, and_true, lset_0, lset_1, lset_s, avw_I, avw_L, avw_R, clr_cons, clr_nil, kst_0, kst_1, kstL_0, kstL_1, addk_I, pA_0, pA_s, pD_0, pD_s, wid_nil, wid_cons, rcv_c, putv_I, putv_L, List.length_cons, List.length_nil, List.set_cons_zero, List.set_cons_succ, not_false_eq_true, Nat.reduceMod, Nat.reduceDiv, Nat.reduceEqDiff, Nat.reduceLT, Nat.reduceLeDiff, Nat.reduceAdd, Nat.reduceSub, reduceIte, Nat.lt_irrefl, Nat.zero_ne_one, Nat.one_ne_zero, Nat.zero_add, List.nil_append, List.cons_append, Option.toList_some, Option.toList_none, forall_const, false_implies, true_implies, false_or, or_false, true_or, or_true, i_le, i_lt, i_eq, i_eq0, i_lt0, i_0le, i_0lt, i_le0, i_in1, i_cl, nI_add, pk_mul, pk_sub, i_div, i_rem, i_sh1, i_bit, i_or, i_and, i_andn, nt_le, nf_le, nt_lt, nf_lt, nt_eq, nf_eq, not_true_eq_false, and_self, and_false, false_and, eq_self, Bool.toNat_true, Bool.toNat_false, i_bool, i_bool1, Bool.false_eq_true, Bool.true_eq_false, reduceCtorEq, i_neg1, i_neg2, i_neg3, i_neg4, i_neg5, i_neg6, i_neg7, i_neg8, i_neg9, i_nega, i_negb, i_negc, i_max2, i_min2, wi_nil]
      repeat (
        first
        | refine s_X9_plan_0 ?_
        | refine s_X9_plan_7 ?_
        | refine s_X9_plan_14 ?_
        | refine s_X9_plan_21 ?_
        | refine s_X9_plan_22 ?_
        | refine s_X9_plan_25 ?_
        | refine s_X9_plan_32 ?_
        | refine s_X9_plan_61 ?_
        | refine s_X9_plan_84 ?_
        | refine s_X9_plan_98 ?_
        | refine s_X9_plan_100 ?_
        | refine s_X9_plan_114 ?_
        | refine s_X9_plan_116 ?_
        | refine s_X9_plan_124 ?_
        | refine s_X9_plan_131 ?_
        | refine s_X9_plan_173 ?_
        simp (disch := omega) only [B_X9_plan_0, wi_aload_n, wi_iload_n, wi_iconst, wi_invokestatic, B_X9_plan_7, wi_if_eq, B_X9_plan_14, wi_goto, B_X9_plan_21, B_X9_plan_22, wi_invokevirtual, cnt_8, B_X9_plan_25, wi_istore_n, wi_if_ge, wi_ireturn, B_X9_plan_32, wi_istore, B_X9_plan_38, wi_iload, wi_icmp_ge, wi_getfield, fldv_8_10, fds_8_10, wi_ishl, wi_imul, wi_iinc, B_X9_plan_61, B_X9_plan_70, B_X9_plan_84, wi_icmp_le, B_X9_plan_98, B_X9_plan_100, B_X9_plan_114, B_X9_plan_116, B_X9_plan_124, B_X9_plan_131, wi_pop, fldv_8_5, fds_8_5, wi_iastore, cnt_31, aTy_31, aLn_31, arr_31, cnt_32, aTy_32, aLn_32, arr_32, cnt_47, aTy_47, aLn_47, arr_47, B_X9_plan_142, fldv_8_6, fds_8_6, wi_bipush, wi_iadd, fldv_8_28, fds_8_28, wi_iaload, B_X9_plan_173, no0, no1, nz1, nz2, nz3, nz4, nz5, nz7, nz8, Classical.not_not, bz0, bz1, wi_nil, ld_0, ld_s, isIv_I, isLv_L, isRv_R, true_and, and_true, lset_0, lset_1, lset_s, avw_I, avw_L, avw_R, clr_cons, clr_nil, kst_0, kst_1, kstL_0, kstL_1, addk_I, pA_0, pA_s, pD_0, pD_s, wid_nil, wid_cons, rcv_c, putv_I, putv_L, List.length_cons, List.length_nil, List.set_cons_zero, List.set_cons_succ, not_false_eq_true, Nat.reduceMod, Nat.reduceDiv, Nat.reduceEqDiff, Nat.reduceLT, Nat.reduceLeDiff, Nat.reduceAdd, Nat.reduceSub, reduceIte, Nat.lt_irrefl, Nat.zero_ne_one, Nat.one_ne_zero, Nat.zero_add, List.nil_append, List.cons_append, Option.toList_some, Option.toList_none, forall_const, false_implies, true_implies, false_or, or_false, true_or, or_true, i_le, i_lt, i_eq, i_eq0, i_lt0, i_0le, i_0lt, i_le0, i_in1, i_cl, nI_add, pk_mul, pk_sub, i_div, i_rem, i_sh1, i_bit, i_or, i_and, i_andn, nt_le, nf_le, nt_lt, nf_lt, nt_eq, nf_eq, not_true_eq_false, and_self, and_false, false_and, eq_self, Bool.toNat_true, Bool.toNat_false, i_bool, i_bool1, Bool.false_eq_true, Bool.true_eq_false, reduceCtorEq, i_neg1, i_neg2, i_neg3, i_neg4, i_neg5, i_neg6, i_neg7, i_neg8, i_neg9, i_nega, i_negb, i_negc, i_max2, i_min2])
      exact pm h
    · obtain ⟨r, hr6, rfl⟩ := inb_nat hr
      rcases Nat.eq_zero_or_pos (Y 6 0) with e0 | e0
      · refine x_entry (ls2 := [aR 7 0, aI (nI n), aI (nI r), aU, aU]) (Nat.le_of_ble_eq_true rfl) pl_8 rfl (Nat.le_of_ble_eq_true rfl) ?_
        try simp (disch := omega) only [no0, no1, nz1, nz2, nz3, nz4, nz5, nz7, nz8, Classical.not_not, bz0, bz1, wi_nil, ld_0, ld_s, isIv_I, isLv_L, isRv_R, true_and, and_true, lset_0, lset_1, lset_s, avw_I, avw_L, avw_R, clr_cons, clr_nil, kst_0, kst_1, kstL_0, kstL_1, addk_I, pA_0, pA_s, pD_0, pD_s, wid_nil, wid_cons, rcv_c, putv_I, putv_L, List.length_cons, List.length_nil, List.set_cons_zero, List.set_cons_succ, not_false_eq_true, Nat.reduceMod, Nat.reduceDiv, Nat.reduceEqDiff, Nat.reduceLT, Nat.reduceLeDiff, Nat.reduceAdd, Nat.reduceSub, reduceIte, Nat.lt_irrefl, Nat.zero_ne_one, Nat.one_ne_zero, Nat.zero_add, List.nil_append, List.cons_append, Option.toList_some, Option.toList_none, forall_const, false_implies, true_implies, false_or, or_false, true_or, or_true, i_le, i_lt, i_eq, i_eq0, i_lt0, i_0le, i_0lt, i_le0, i_in1, i_cl, nI_add, pk_mul, pk_sub, i_div, i_rem, i_sh1, i_bit, i_or, i_and, i_andn, nt_le, nf_le, nt_lt, nf_lt, nt_eq, nf_eq, not_true_eq_false, and_self, and_false, false_and, eq_self, Bool.toNat_true, Bool.toNat_false, i_bool, i_bool1, Bool.false_eq_true, Bool.true_eq_false, reduceCtorEq, i_neg1, i_neg2, i_neg3, i_neg4, i_neg5, i_neg6, i_neg7, i_neg8, i_neg9, i_nega, i_negb, i_negc, i_max2, i_min2, wi_nil]
        repeat (
          first
          | refine s_X8_plan_0 ?_
          | refine s_X8_plan_13 ?_
          | refine s_X8_plan_16 ?_
          | refine s_X8_plan_18 ?_
          | refine s_X8_plan_31 ?_
          | refine s_X8_plan_43 ?_
          | refine s_X8_plan_53 ?_
          | refine s_X8_plan_82 ?_
          | refine s_X8_plan_88 ?_
          simp (disch := omega) only [B_X8_plan_0, wi_iload_n, wi_if_lt, wi_iconst, wi_icmp_gt, wi_invokestatic, B_X8_plan_13, wi_if_ne, B_X8_plan_16, wi_ireturn, B_X8_plan_18, wi_aload_n, wi_getfield, fldv_7_3, fds_7_3, cnt_7, fldv_6_7, fds_6_7, cnt_6, wi_bipush, B_X8_plan_31, fldv_7_7, fds_7_7, wi_invokevirtual, cnt_1, B_X8_plan_43, wi_istore_n, fldv_7_0, fds_7_0, cnt_3, B_X8_plan_53, wi_istore, B_X8_plan_56, wi_iload, wi_icmp_ge, fldv_1_3, fds_1_3, wi_iaload, cnt_14, aTy_14, aLn_14, arr_14, B_X8_plan_82, wi_iinc, wi_goto, B_X8_plan_88, no0, no1, nz1, nz2, nz3, nz4, nz5, nz7, nz8, Classical.not_not, bz0, bz1, wi_nil, ld_0, ld_s, isIv_I, isLv_L, isRv_R, true_and, and_true, lset_0, lset_1, lset_s, avw_I, avw_L, avw_R, clr_cons, clr_nil, kst_0, kst_1, kstL_0, kstL_1, addk_I, pA_0, pA_s, pD_0, pD_s, wid_nil, wid_cons, rcv_c, putv_I, putv_L, List.length_cons, List.length_nil, List.set_cons_zero, List.set_cons_succ, not_false_eq_true, Nat.reduceMod, Nat.reduceDiv, Nat.reduceEqDiff, Nat.reduceLT, Nat.reduceLeDiff, Nat.reduceAdd, Nat.reduceSub, reduceIte, Nat.lt_irrefl, Nat.zero_ne_one, Nat.one_ne_zero, Nat.zero_add, List.nil_append, List.cons_append, Option.toList_some, Option.toList_none, forall_const, false_implies, true_implies, false_or, or_false, true_or, or_true, i_le, i_lt, i_eq, i_eq0, i_lt0, i_0le, i_0lt, i_le0, i_in1, i_cl, nI_add, pk_mul, pk_sub, i_div, i_rem, i_sh1, i_bit, i_or, i_and, i_andn, nt_le, nf_le, nt_lt, nf_lt, nt_eq, nf_eq, not_true_eq_false, and_self, and_false, false_and, eq_self, Bool.toNat_true, Bool.toNat_false, i_bool, i_bool1, Bool.false_eq_true, Bool.true_eq_false, reduceCtorEq, i_neg1, i_neg2, i_neg3, i_neg4, i_neg5, i_neg6, i_neg7, i_neg8, i_neg9, i_nega, i_negb, i_negc, i_max2, i_min2])
        refine c_isRow ?_
        try simp (disch := omega) only [no0, no1, nz1, nz2, nz3, nz4, nz5, nz7, nz8, Classical.not_not, bz0, bz1, wi_nil, ld_0, ld_s, isIv_I, isLv_L, isRv_R, true_and, and_true, lset_0, lset_1, lset_s, avw_I, avw_L, avw_R, clr_cons, clr_nil, kst_0, kst_1, kstL_0, kstL_1, addk_I, pA_0, pA_s, pD_0, pD_s, wid_nil, wid_cons, rcv_c, putv_I, putv_L, List.length_cons, List.length_nil, List.set_cons_zero, List.set_cons_succ, not_false_eq_true, Nat.reduceMod, Nat.reduceDiv, Nat.reduceEqDiff, Nat.reduceLT, Nat.reduceLeDiff, Nat.reduceAdd, Nat.reduceSub, reduceIte, Nat.lt_irrefl, Nat.zero_ne_one, Nat.one_ne_zero, Nat.zero_add, List.nil_append, List.cons_append, Option.toList_some, Option.toList_none, forall_const, false_implies, true_implies, false_or, or_false, true_or, or_true, i_le, i_lt, i_eq, i_eq0, i_lt0, i_0le, i_0lt, i_le0, i_in1, i_cl, nI_add, pk_mul, pk_sub, i_div, i_rem, i_sh1, i_bit, i_or, i_and, i_andn, nt_le, nf_le, nt_lt, nf_lt, nt_eq, nf_eq, not_true_eq_false, and_self, and_false, false_and, eq_self, Bool.toNat_true, Bool.toNat_false, i_bool, i_bool1, Bool.false_eq_true, Bool.true_eq_false, reduceCtorEq, i_neg1, i_neg2, i_neg3, i_neg4, i_neg5, i_neg6, i_neg7, i_neg8, i_neg9, i_nega, i_negb, i_negc, i_max2, i_min2, hr, (y_n hy), wi_nil]
        repeat (
          first
          | refine s_X8_plan_0 ?_
          | refine s_X8_plan_13 ?_
          | refine s_X8_plan_16 ?_
          | refine s_X8_plan_18 ?_
          | refine s_X8_plan_31 ?_
          | refine s_X8_plan_43 ?_
          | refine s_X8_plan_53 ?_
          | refine s_X8_plan_82 ?_
          | refine s_X8_plan_88 ?_
          simp (disch := omega) only [B_X8_plan_0, wi_iload_n, wi_if_lt, wi_iconst, wi_icmp_gt, wi_invokestatic, B_X8_plan_13, wi_if_ne, B_X8_plan_16, wi_ireturn, B_X8_plan_18, wi_aload_n, wi_getfield, fldv_7_3, fds_7_3, cnt_7, fldv_6_7, fds_6_7, cnt_6, wi_bipush, B_X8_plan_31, fldv_7_7, fds_7_7, wi_invokevirtual, cnt_1, B_X8_plan_43, wi_istore_n, fldv_7_0, fds_7_0, cnt_3, B_X8_plan_53, wi_istore, B_X8_plan_56, wi_iload, wi_icmp_ge, fldv_1_3, fds_1_3, wi_iaload, cnt_14, aTy_14, aLn_14, arr_14, B_X8_plan_82, wi_iinc, wi_goto, B_X8_plan_88, no0, no1, nz1, nz2, nz3, nz4, nz5, nz7, nz8, Classical.not_not, bz0, bz1, wi_nil, ld_0, ld_s, isIv_I, isLv_L, isRv_R, true_and, and_true, lset_0, lset_1, lset_s, avw_I, avw_L, avw_R, clr_cons, clr_nil, kst_0, kst_1, kstL_0, kstL_1, addk_I, pA_0, pA_s, pD_0, pD_s, wid_nil, wid_cons, rcv_c, putv_I, putv_L, List.length_cons, List.length_nil, List.set_cons_zero, List.set_cons_succ, not_false_eq_true, Nat.reduceMod, Nat.reduceDiv, Nat.reduceEqDiff, Nat.reduceLT, Nat.reduceLeDiff, Nat.reduceAdd, Nat.reduceSub, reduceIte, Nat.lt_irrefl, Nat.zero_ne_one, Nat.one_ne_zero, Nat.zero_add, List.nil_append, List.cons_append, Option.toList_some, Option.toList_none, forall_const, false_implies, true_implies, false_or, or_false, true_or, or_true, i_le, i_lt, i_eq, i_eq0, i_lt0, i_0le, i_0lt, i_le0, i_in1, i_cl, nI_add, pk_mul, pk_sub, i_div, i_rem, i_sh1, i_bit, i_or, i_and, i_andn, nt_le, nf_le, nt_lt, nf_lt, nt_eq, nf_eq, not_true_eq_false, and_self, and_false, false_and, eq_self, Bool.toNat_true, Bool.toNat_false, i_bool, i_bool1, Bool.false_eq_true, Bool.true_eq_false, reduceCtorEq, i_neg1, i_neg2, i_neg3, i_neg4, i_neg5, i_neg6, i_neg7, i_neg8, i_neg9, i_nega, i_negb, i_negc, i_max2, i_min2, hr, (y_n hy)])
        refine px ?_
        refine x_entry (ls2 := [aR 8 0, aI (nI n), aI (nI r), aU, aU, aU, aU, aU, aU]) (Nat.le_of_ble_eq_true rfl) pl_9 rfl (Nat.le_of_ble_eq_true rfl) ?_
        try simp (disch := omega) only [no0, no1, nz1, nz2, nz3, nz4, nz5, nz7, nz8, Classical.not_not, bz0, bz1, wi_nil, ld_0, ld_s, isIv_I, isLv_L, isRv_R, true_and, and_true, lset_0, lset_1, lset_s, avw_I, avw_L, avw_R, clr_cons, clr_nil, kst_0, kst_1, kstL_0, kstL_1, addk_I, pA_0, pA_s, pD_0, pD_s, wid_nil, wid_cons, rcv_c, putv_I, putv_L, List.length_cons, List.length_nil, List.set_cons_zero, List.set_cons_succ, not_false_eq_true, Nat.reduceMod, Nat.reduceDiv, Nat.reduceEqDiff, Nat.reduceLT, Nat.reduceLeDiff, Nat.reduceAdd, Nat.reduceSub, reduceIte, Nat.lt_irrefl, Nat.zero_ne_one, Nat.one_ne_zero, Nat.zero_add, List.nil_append, List.cons_append, Option.toList_some, Option.toList_none, forall_const, false_implies, true_implies, false_or, or_false, true_or, or_true, i_le, i_lt, i_eq, i_eq0, i_lt0, i_0le, i_0lt, i_le0, i_in1, i_cl, nI_add, pk_mul, pk_sub, i_div, i_rem, i_sh1, i_bit, i_or, i_and, i_andn, nt_le, nf_le, nt_lt, nf_lt, nt_eq, nf_eq, not_true_eq_false, and_self, and_false, false_and, eq_self, Bool.toNat_true, Bool.toNat_false, i_bool, i_bool1, Bool.false_eq_true, Bool.true_eq_false, reduceCtorEq, i_neg1, i_neg2, i_neg3, i_neg4, i_neg5, i_neg6, i_neg7, i_neg8, i_neg9, i_nega, i_negb, i_negc, i_max2, i_min2, wi_nil]
        repeat (
          first
          | refine s_X9_plan_0 ?_
          | refine s_X9_plan_7 ?_
          | refine s_X9_plan_14 ?_
          | refine s_X9_plan_21 ?_
          | refine s_X9_plan_22 ?_
          | refine s_X9_plan_25 ?_
          | refine s_X9_plan_32 ?_
          | refine s_X9_plan_61 ?_
          | refine s_X9_plan_84 ?_
          | refine s_X9_plan_98 ?_
          | refine s_X9_plan_100 ?_
          | refine s_X9_plan_114 ?_
          | refine s_X9_plan_116 ?_
          | refine s_X9_plan_124 ?_
          | refine s_X9_plan_131 ?_
          | refine s_X9_plan_173 ?_
          simp (disch := omega) only [B_X9_plan_0, wi_aload_n, wi_iload_n, wi_iconst, wi_invokestatic, B_X9_plan_7, wi_if_eq, B_X9_plan_14, wi_goto, B_X9_plan_21, B_X9_plan_22, wi_invokevirtual, cnt_8, B_X9_plan_25, wi_istore_n, wi_if_ge, wi_ireturn, B_X9_plan_32, wi_istore, B_X9_plan_38, wi_iload, wi_icmp_ge, wi_getfield, fldv_8_10, fds_8_10, wi_ishl, wi_imul, wi_iinc, B_X9_plan_61, B_X9_plan_70, B_X9_plan_84, wi_icmp_le, B_X9_plan_98, B_X9_plan_100, B_X9_plan_114, B_X9_plan_116, B_X9_plan_124, B_X9_plan_131, wi_pop, fldv_8_5, fds_8_5, wi_iastore, cnt_31, aTy_31, aLn_31, arr_31, cnt_32, aTy_32, aLn_32, arr_32, cnt_47, aTy_47, aLn_47, arr_47, B_X9_plan_142, fldv_8_6, fds_8_6, wi_bipush, wi_iadd, fldv_8_28, fds_8_28, wi_iaload, B_X9_plan_173, no0, no1, nz1, nz2, nz3, nz4, nz5, nz7, nz8, Classical.not_not, bz0, bz1, wi_nil, ld_0, ld_s, isIv_I, isLv_L, isRv_R, true_and, and_true, lset_0, lset_1, lset_s, avw_I, avw_L, avw_R, clr_cons, clr_nil, kst_0, kst_1, kstL_0, kstL_1, addk_I, pA_0, pA_s, pD_0, pD_s, wid_nil, wid_cons, rcv_c, putv_I, putv_L, List.length_cons, List.length_nil, List.set_cons_zero, List.set_cons_succ, not_false_eq_true, Nat.reduceMod, Nat.reduceDiv, Nat.reduceEqDiff, Nat.reduceLT, Nat.reduceLeDiff, Nat.reduceAdd, Nat.reduceSub, reduceIte, Nat.lt_irrefl, Nat.zero_ne_one, Nat.one_ne_zero, Nat.zero_add, List.nil_append, List.cons_append, Option.toList_some, Option.toList_none, forall_const, false_implies, true_implies, false_or, or_false, true_or, or_true, i_le, i_lt, i_eq, i_eq0, i_lt0, i_0le, i_0lt, i_le0, i_in1, i_cl, nI_add, pk_mul, pk_sub, i_div, i_rem, i_sh1, i_bit, i_or, i_and, i_andn, nt_le, nf_le, nt_lt, nf_lt, nt_eq, nf_eq, not_true_eq_false, and_self, and_false, false_and, eq_self, Bool.toNat_true, Bool.toNat_false, i_bool, i_bool1, Bool.false_eq_true, Bool.true_eq_false, reduceCtorEq, i_neg1, i_neg2, i_neg3, i_neg4, i_neg5, i_neg6, i_neg7, i_neg8, i_neg9, i_nega, i_negb, i_negc, i_max2, i_min2])
        refine c_in (inb_le (N := 3) (by decide)) ?_
        try simp (disch := omega) only [no0, no1, nz1, nz2, nz3, nz4, nz5, nz7, nz8, Classical.not_not, bz0, bz1, wi_nil, ld_0, ld_s, isIv_I, isLv_L, isRv_R, true_and, and_true, lset_0, lset_1, lset_s, avw_I, avw_L, avw_R, clr_cons, clr_nil, kst_0, kst_1, kstL_0, kstL_1, addk_I, pA_0, pA_s, pD_0, pD_s, wid_nil, wid_cons, rcv_c, putv_I, putv_L, List.length_cons, List.length_nil, List.set_cons_zero, List.set_cons_succ, not_false_eq_true, Nat.reduceMod, Nat.reduceDiv, Nat.reduceEqDiff, Nat.reduceLT, Nat.reduceLeDiff, Nat.reduceAdd, Nat.reduceSub, reduceIte, Nat.lt_irrefl, Nat.zero_ne_one, Nat.one_ne_zero, Nat.zero_add, List.nil_append, List.cons_append, Option.toList_some, Option.toList_none, forall_const, false_implies, true_implies, false_or, or_false, true_or, or_true, i_le, i_lt, i_eq, i_eq0, i_lt0, i_0le, i_0lt, i_le0, i_in1, i_cl, nI_add, pk_mul, pk_sub, i_div, i_rem, i_sh1, i_bit, i_or, i_and, i_andn, nt_le, nf_le, nt_lt, nf_lt, nt_eq, nf_eq, not_true_eq_false, and_self, and_false, false_and, eq_self, Bool.toNat_true, Bool.toNat_false, i_bool, i_bool1, Bool.false_eq_true, Bool.true_eq_false, reduceCtorEq, i_neg1, i_neg2, i_neg3, i_neg4, i_neg5, i_neg6, i_neg7, i_neg8, i_neg9, i_nega, i_negb, i_negc, i_max2, i_min2, hn, wi_nil]
        repeat (
          first
          | refine s_X9_plan_0 ?_
          | refine s_X9_plan_7 ?_
          | refine s_X9_plan_14 ?_
          | refine s_X9_plan_21 ?_
          | refine s_X9_plan_22 ?_
          | refine s_X9_plan_25 ?_
          | refine s_X9_plan_32 ?_
          | refine s_X9_plan_61 ?_
          | refine s_X9_plan_84 ?_
          | refine s_X9_plan_98 ?_
          | refine s_X9_plan_100 ?_
          | refine s_X9_plan_114 ?_
          | refine s_X9_plan_116 ?_
          | refine s_X9_plan_124 ?_
          | refine s_X9_plan_131 ?_
          | refine s_X9_plan_173 ?_
          simp (disch := omega) only [B_X9_plan_0, wi_aload_n, wi_iload_n, wi_iconst, wi_invokestatic, B_X9_plan_7, wi_if_eq, B_X9_plan_14, wi_goto, B_X9_plan_21, B_X9_plan_22, wi_invokevirtual, cnt_8, B_X9_plan_25, wi_istore_n, wi_if_ge, wi_ireturn, B_X9_plan_32, wi_istore, B_X9_plan_38, wi_iload, wi_icmp_ge, wi_getfield, fldv_8_10, fds_8_10, wi_ishl, wi_imul, wi_iinc, B_X9_plan_61, B_X9_plan_70, B_X9_plan_84, wi_icmp_le, B_X9_plan_98, B_X9_plan_100, B_X9_plan_114, B_X9_plan_116, B_X9_plan_124, B_X9_plan_131, wi_pop, fldv_8_5, fds_8_5, wi_iastore, cnt_31, aTy_31, aLn_31, arr_31, cnt_32, aTy_32, aLn_32, arr_32, cnt_47, aTy_47, aLn_47, arr_47, B_X9_plan_142, fldv_8_6, fds_8_6, wi_bipush, wi_iadd, fldv_8_28, fds_8_28, wi_iaload, B_X9_plan_173, no0, no1, nz1, nz2, nz3, nz4, nz5, nz7, nz8, Classical.not_not, bz0, bz1, wi_nil, ld_0, ld_s, isIv_I, isLv_L, isRv_R, true_and, and_true, lset_0, lset_1, lset_s, avw_I, avw_L, avw_R, clr_cons, clr_nil, kst_0, kst_1, kstL_0, kstL_1, addk_I, pA_0, pA_s, pD_0, pD_s, wid_nil, wid_cons, rcv_c, putv_I, putv_L, List.length_cons, List.length_nil, List.set_cons_zero, List.set_cons_succ, not_false_eq_true, Nat.reduceMod, Nat.reduceDiv, Nat.reduceEqDiff, Nat.reduceLT, Nat.reduceLeDiff, Nat.reduceAdd, Nat.reduceSub, reduceIte, Nat.lt_irrefl, Nat.zero_ne_one, Nat.one_ne_zero, Nat.zero_add, List.nil_append, List.cons_append, Option.toList_some, Option.toList_none, forall_const, false_implies, true_implies, false_or, or_false, true_or, or_true, i_le, i_lt, i_eq, i_eq0, i_lt0, i_0le, i_0lt, i_le0, i_in1, i_cl, nI_add, pk_mul, pk_sub, i_div, i_rem, i_sh1, i_bit, i_or, i_and, i_andn, nt_le, nf_le, nt_lt, nf_lt, nt_eq, nf_eq, not_true_eq_false, and_self, and_false, false_and, eq_self, Bool.toNat_true, Bool.toNat_false, i_bool, i_bool1, Bool.false_eq_true, Bool.true_eq_false, reduceCtorEq, i_neg1, i_neg2, i_neg3, i_neg4, i_neg5, i_neg6, i_neg7, i_neg8, i_neg9, i_nega, i_negb, i_negc, i_max2, i_min2, hn])
        refine c_mRow ?_
        try simp (disch := omega) only [no0, no1, nz1, nz2, nz3, nz4, nz5, nz7, nz8, Classical.not_not, bz0, bz1, wi_nil, ld_0, ld_s, isIv_I, isLv_L, isRv_R, true_and, and_true, lset_0, lset_1, lset_s, avw_I, avw_L, avw_R, clr_cons, clr_nil, kst_0, kst_1, kstL_0, kstL_1, addk_I, pA_0, pA_s, pD_0, pD_s, wid_nil, wid_cons, rcv_c, putv_I, putv_L, List.length_cons, List.length_nil, List.set_cons_zero, List.set_cons_succ, not_false_eq_true, Nat.reduceMod, Nat.reduceDiv, Nat.reduceEqDiff, Nat.reduceLT, Nat.reduceLeDiff, Nat.reduceAdd, Nat.reduceSub, reduceIte, Nat.lt_irrefl, Nat.zero_ne_one, Nat.one_ne_zero, Nat.zero_add, List.nil_append, List.cons_append, Option.toList_some, Option.toList_none, forall_const, false_implies, true_implies, false_or, or_false, true_or, or_true, i_le, i_lt, i_eq, i_eq0, i_lt0, i_0le, i_0lt, i_le0, i_in1, i_cl, nI_add, pk_mul, pk_sub, i_div, i_rem, i_sh1, i_bit, i_or, i_and, i_andn, nt_le, nf_le, nt_lt, nf_lt, nt_eq, nf_eq, not_true_eq_false, and_self, and_false, false_and, eq_self, Bool.toNat_true, Bool.toNat_false, i_bool, i_bool1, Bool.false_eq_true, Bool.true_eq_false, reduceCtorEq, i_neg1, i_neg2, i_neg3, i_neg4, i_neg5, i_neg6, i_neg7, i_neg8, i_neg9, i_nega, i_negb, i_negc, i_max2, i_min2, hr, wi_nil]
        repeat (
          first
          | refine s_X9_plan_0 ?_
          | refine s_X9_plan_7 ?_
          | refine s_X9_plan_14 ?_
          | refine s_X9_plan_21 ?_
          | refine s_X9_plan_22 ?_
          | refine s_X9_plan_25 ?_
          | refine s_X9_plan_32 ?_
          | refine s_X9_plan_61 ?_
          | refine s_X9_plan_84 ?_
          | refine s_X9_plan_98 ?_
          | refine s_X9_plan_100 ?_
          | refine s_X9_plan_114 ?_
          | refine s_X9_plan_116 ?_
          | refine s_X9_plan_124 ?_
          | refine s_X9_plan_131 ?_
          | refine s_X9_plan_173 ?_
          simp (disch := omega) only [B_X9_plan_0, wi_aload_n, wi_iload_n, wi_iconst, wi_invokestatic, B_X9_plan_7, wi_if_eq, B_X9_plan_14, wi_goto, B_X9_plan_21, B_X9_plan_22, wi_invokevirtual, cnt_8, B_X9_plan_25, wi_istore_n, wi_if_ge, wi_ireturn, B_X9_plan_32, wi_istore, B_X9_plan_38, wi_iload, wi_icmp_ge, wi_getfield, fldv_8_10, fds_8_10, wi_ishl, wi_imul, wi_iinc, B_X9_plan_61, B_X9_plan_70, B_X9_plan_84, wi_icmp_le, B_X9_plan_98, B_X9_plan_100, B_X9_plan_114, B_X9_plan_116, B_X9_plan_124, B_X9_plan_131, wi_pop, fldv_8_5, fds_8_5, wi_iastore, cnt_31, aTy_31, aLn_31, arr_31, cnt_32, aTy_32, aLn_32, arr_32, cnt_47, aTy_47, aLn_47, arr_47, B_X9_plan_142, fldv_8_6, fds_8_6, wi_bipush, wi_iadd, fldv_8_28, fds_8_28, wi_iaload, B_X9_plan_173, no0, no1, nz1, nz2, nz3, nz4, nz5, nz7, nz8, Classical.not_not, bz0, bz1, wi_nil, ld_0, ld_s, isIv_I, isLv_L, isRv_R, true_and, and_true, lset_0, lset_1, lset_s, avw_I, avw_L, avw_R, clr_cons, clr_nil, kst_0, kst_1, kstL_0, kstL_1, addk_I, pA_0, pA_s, pD_0, pD_s, wid_nil, wid_cons, rcv_c, putv_I, putv_L, List.length_cons, List.length_nil, List.set_cons_zero, List.set_cons_succ, not_false_eq_true, Nat.reduceMod, Nat.reduceDiv, Nat.reduceEqDiff, Nat.reduceLT, Nat.reduceLeDiff, Nat.reduceAdd, Nat.reduceSub, reduceIte, Nat.lt_irrefl, Nat.zero_ne_one, Nat.one_ne_zero, Nat.zero_add, List.nil_append, List.cons_append, Option.toList_some, Option.toList_none, forall_const, false_implies, true_implies, false_or, or_false, true_or, or_true, i_le, i_lt, i_eq, i_eq0, i_lt0, i_0le, i_0lt, i_le0, i_in1, i_cl, nI_add, pk_mul, pk_sub, i_div, i_rem, i_sh1, i_bit, i_or, i_and, i_andn, nt_le, nf_le, nt_lt, nf_lt, nt_eq, nf_eq, not_true_eq_false, and_self, and_false, false_and, eq_self, Bool.toNat_true, Bool.toNat_false, i_bool, i_bool1, Bool.false_eq_true, Bool.true_eq_false, reduceCtorEq, i_neg1, i_neg2, i_neg3, i_neg4, i_neg5, i_neg6, i_neg7, i_neg8, i_neg9, i_nega, i_negb, i_negc, i_max2, i_min2, hr])
        refine c_needS hm e0 ?_
        try simp (disch := omega) only [no0, no1, nz1, nz2, nz3, nz4, nz5, nz7, nz8, Classical.not_not, bz0, bz1, wi_nil, ld_0, ld_s, isIv_I, isLv_L, isRv_R, true_and, and_true, lset_0, lset_1, lset_s, avw_I, avw_L, avw_R, clr_cons, clr_nil, kst_0, kst_1, kstL_0, kstL_1, addk_I, pA_0, pA_s, pD_0, pD_s, wid_nil, wid_cons, rcv_c, putv_I, putv_L, List.length_cons, List.length_nil, List.set_cons_zero, List.set_cons_succ, not_false_eq_true, Nat.reduceMod, Nat.reduceDiv, Nat.reduceEqDiff, Nat.reduceLT, Nat.reduceLeDiff, Nat.reduceAdd, Nat.reduceSub, reduceIte, Nat.lt_irrefl, Nat.zero_ne_one, Nat.one_ne_zero, Nat.zero_add, List.nil_append, List.cons_append, Option.toList_some, Option.toList_none, forall_const, false_implies, true_implies, false_or, or_false, true_or, or_true, i_le, i_lt, i_eq, i_eq0, i_lt0, i_0le, i_0lt, i_le0, i_in1, i_cl, nI_add, pk_mul, pk_sub, i_div, i_rem, i_sh1, i_bit, i_or, i_and, i_andn, nt_le, nf_le, nt_lt, nf_lt, nt_eq, nf_eq, not_true_eq_false, and_self, and_false, false_and, eq_self, Bool.toNat_true, Bool.toNat_false, i_bool, i_bool1, Bool.false_eq_true, Bool.true_eq_false, reduceCtorEq, i_neg1, i_neg2, i_neg3, i_neg4, i_neg5, i_neg6, i_neg7, i_neg8, i_neg9, i_nega, i_negb, i_negc, i_max2, i_min2, wi_nil]
        repeat (
          first
          | refine s_X9_plan_0 ?_
          | refine s_X9_plan_7 ?_
          | refine s_X9_plan_14 ?_
          | refine s_X9_plan_21 ?_
          | refine s_X9_plan_22 ?_
          | refine s_X9_plan_25 ?_
          | refine s_X9_plan_32 ?_
          | refine s_X9_plan_61 ?_
          | refine s_X9_plan_84 ?_
          | refine s_X9_plan_98 ?_
          | refine s_X9_plan_100 ?_
          | refine s_X9_plan_114 ?_
          | refine s_X9_plan_116 ?_
          | refine s_X9_plan_124 ?_
          | refine s_X9_plan_131 ?_
          | refine s_X9_plan_173 ?_
          simp (disch := omega) only [B_X9_plan_0, wi_aload_n, wi_iload_n, wi_iconst, wi_invokestatic, B_X9_plan_7, wi_if_eq, B_X9_plan_14, wi_goto, B_X9_plan_21, B_X9_plan_22, wi_invokevirtual, cnt_8, B_X9_plan_25, wi_istore_n, wi_if_ge, wi_ireturn, B_X9_plan_32, wi_istore, B_X9_plan_38, wi_iload, wi_icmp_ge, wi_getfield, fldv_8_10, fds_8_10, wi_ishl, wi_imul, wi_iinc, B_X9_plan_61, B_X9_plan_70, B_X9_plan_84, wi_icmp_le, B_X9_plan_98, B_X9_plan_100, B_X9_plan_114, B_X9_plan_116, B_X9_plan_124, B_X9_plan_131, wi_pop, fldv_8_5, fds_8_5, wi_iastore, cnt_31, aTy_31, aLn_31, arr_31, cnt_32, aTy_32, aLn_32, arr_32, cnt_47, aTy_47, aLn_47, arr_47, B_X9_plan_142, fldv_8_6, fds_8_6, wi_bipush, wi_iadd, fldv_8_28, fds_8_28, wi_iaload, B_X9_plan_173, no0, no1, nz1, nz2, nz3, nz4, nz5, nz7, nz8, Classical.not_not, bz0, bz1, wi_nil, ld_0, ld_s, isIv_I, isLv_L, isRv_R, true_and, and_true, lset_0, lset_1, lset_s, avw_I, avw_L, avw_R, clr_cons, clr_nil, kst_0, kst_1, kstL_0, kstL_1, addk_I, pA_0, pA_s, pD_0, pD_s, wid_nil, wid_cons, rcv_c, putv_I, putv_L, List.length_cons, List.length_nil, List.set_cons_zero, List.set_cons_succ, not_false_eq_true, Nat.reduceMod, Nat.reduceDiv, Nat.reduceEqDiff, Nat.reduceLT, Nat.reduceLeDiff, Nat.reduceAdd, Nat.reduceSub, reduceIte, Nat.lt_irrefl, Nat.zero_ne_one, Nat.one_ne_zero, Nat.zero_add, List.nil_append, List.cons_append, Option.toList_some, Option.toList_none, forall_const, false_implies, true_implies, false_or, or_false, true_or, or_true, i_le, i_lt, i_eq, i_eq0, i_lt0, i_0le, i_0lt, i_le0, i_in1, i_cl, nI_add, pk_mul, pk_sub, i_div, i_rem, i_sh1, i_bit, i_or, i_and, i_andn, nt_le, nf_le, nt_lt, nf_lt, nt_eq, nf_eq, not_true_eq_false, and_self, and_false, false_and, eq_self, Bool.toNat_true, Bool.toNat_false, i_bool, i_bool1, Bool.false_eq_true, Bool.true_eq_false, reduceCtorEq, i_neg1, i_neg2, i_neg3, i_neg4, i_neg5, i_neg6, i_neg7, i_neg8, i_neg9, i_nega, i_negb, i_negc, i_max2, i_min2])
        exact pm h
      · obtain ⟨C, hC⟩ : ∃ C, (2 ^ Y 6 0) ^ n = C := ⟨_, rfl⟩
        have hCb : C < 40000 := by
          have a1 : (2 ^ Y 6 0) ^ n ≤ 32 ^ n := Nat.pow_le_pow_left (by omega) n
          have a2 : 32 ^ n ≤ 32 ^ 3 := Nat.pow_le_pow_right (by decide) (by omega)
          omega
        have hC1 : 0 < C := by rw [← hC]; exact Nat.pow_pos (Nat.two_pow_pos _)
        have hst : sk n 0 Y (fun _ => 0) 0 (0, fun _ => 0) = ((mb (2 ^ Y 6 0) n Y C).1, dgs (2 ^ Y 6 0) n (mb (2 ^ Y 6 0) n Y C).2) := by
          rw [← hC]
          exact (mk_sk n 0 40 Y _ 0 _ hok).symm.trans (mb_mk _)
        have hpos : 1 ≤ (mb (2 ^ Y 6 0) n Y C).1 := by
          rw [show C = C - 1 + 1 by omega]
          exact mb_pos hok (C - 1)
        have hle := mb_le (Y := Y) (n := n) (Nat.two_pow_pos (Y 6 0)) (by omega) C
        obtain ⟨⟨k, b⟩, hp⟩ : ∃ p, mb (2 ^ Y 6 0) n Y C = p := ⟨_, rfl⟩
        rw [hp] at hst hpos hle
        have hb : b ≤ C := hle.2
        have hpos : 1 ≤ k := hpos
        refine x_entry (ls2 := [aR 7 0, aI (nI n), aI (nI r), aU, aU]) (Nat.le_of_ble_eq_true rfl) pl_8 rfl (Nat.le_of_ble_eq_true rfl) ?_
        try simp (disch := omega) only [no0, no1, nz1, nz2, nz3, nz4, nz5, nz7, nz8, Classical.not_not, bz0, bz1, wi_nil, ld_0, ld_s, isIv_I, isLv_L, isRv_R, true_and, and_true, lset_0, lset_1, lset_s, avw_I, avw_L, avw_R, clr_cons, clr_nil, kst_0, kst_1, kstL_0, kstL_1, addk_I, pA_0, pA_s, pD_0, pD_s, wid_nil, wid_cons, rcv_c, putv_I, putv_L, List.length_cons, List.length_nil, List.set_cons_zero, List.set_cons_succ, not_false_eq_true, Nat.reduceMod, Nat.reduceDiv, Nat.reduceEqDiff, Nat.reduceLT, Nat.reduceLeDiff, Nat.reduceAdd, Nat.reduceSub, reduceIte, Nat.lt_irrefl, Nat.zero_ne_one, Nat.one_ne_zero, Nat.zero_add, List.nil_append, List.cons_append, Option.toList_some, Option.toList_none, forall_const, false_implies, true_implies, false_or, or_false, true_or, or_true, i_le, i_lt, i_eq, i_eq0, i_lt0, i_0le, i_0lt, i_le0, i_in1, i_cl, nI_add, pk_mul, pk_sub, i_div, i_rem, i_sh1, i_bit, i_or, i_and, i_andn, nt_le, nf_le, nt_lt, nf_lt, nt_eq, nf_eq, not_true_eq_false, and_self, and_false, false_and, eq_self, Bool.toNat_true, Bool.toNat_false, i_bool, i_bool1, Bool.false_eq_true, Bool.true_eq_false, reduceCtorEq, i_neg1, i_neg2, i_neg3, i_neg4, i_neg5, i_neg6, i_neg7, i_neg8, i_neg9, i_nega, i_negb, i_negc, i_max2, i_min2, wi_nil]
        repeat (
          first
          | refine s_X8_plan_0 ?_
          | refine s_X8_plan_13 ?_
          | refine s_X8_plan_16 ?_
          | refine s_X8_plan_18 ?_
          | refine s_X8_plan_31 ?_
          | refine s_X8_plan_43 ?_
          | refine s_X8_plan_53 ?_
          | refine s_X8_plan_82 ?_
          | refine s_X8_plan_88 ?_
          simp (disch := omega) only [B_X8_plan_0, wi_iload_n, wi_if_lt, wi_iconst, wi_icmp_gt, wi_invokestatic, B_X8_plan_13, wi_if_ne, B_X8_plan_16, wi_ireturn, B_X8_plan_18, wi_aload_n, wi_getfield, fldv_7_3, fds_7_3, cnt_7, fldv_6_7, fds_6_7, cnt_6, wi_bipush, B_X8_plan_31, fldv_7_7, fds_7_7, wi_invokevirtual, cnt_1, B_X8_plan_43, wi_istore_n, fldv_7_0, fds_7_0, cnt_3, B_X8_plan_53, wi_istore, B_X8_plan_56, wi_iload, wi_icmp_ge, fldv_1_3, fds_1_3, wi_iaload, cnt_14, aTy_14, aLn_14, arr_14, B_X8_plan_82, wi_iinc, wi_goto, B_X8_plan_88, no0, no1, nz1, nz2, nz3, nz4, nz5, nz7, nz8, Classical.not_not, bz0, bz1, wi_nil, ld_0, ld_s, isIv_I, isLv_L, isRv_R, true_and, and_true, lset_0, lset_1, lset_s, avw_I, avw_L, avw_R, clr_cons, clr_nil, kst_0, kst_1, kstL_0, kstL_1, addk_I, pA_0, pA_s, pD_0, pD_s, wid_nil, wid_cons, rcv_c, putv_I, putv_L, List.length_cons, List.length_nil, List.set_cons_zero, List.set_cons_succ, not_false_eq_true, Nat.reduceMod, Nat.reduceDiv, Nat.reduceEqDiff, Nat.reduceLT, Nat.reduceLeDiff, Nat.reduceAdd, Nat.reduceSub, reduceIte, Nat.lt_irrefl, Nat.zero_ne_one, Nat.one_ne_zero, Nat.zero_add, List.nil_append, List.cons_append, Option.toList_some, Option.toList_none, forall_const, false_implies, true_implies, false_or, or_false, true_or, or_true, i_le, i_lt, i_eq, i_eq0, i_lt0, i_0le, i_0lt, i_le0, i_in1, i_cl, nI_add, pk_mul, pk_sub, i_div, i_rem, i_sh1, i_bit, i_or, i_and, i_andn, nt_le, nf_le, nt_lt, nf_lt, nt_eq, nf_eq, not_true_eq_false, and_self, and_false, false_and, eq_self, Bool.toNat_true, Bool.toNat_false, i_bool, i_bool1, Bool.false_eq_true, Bool.true_eq_false, reduceCtorEq, i_neg1, i_neg2, i_neg3, i_neg4, i_neg5, i_neg6, i_neg7, i_neg8, i_neg9, i_nega, i_negb, i_negc, i_max2, i_min2])
        refine c_isRow ?_
        try simp (disch := omega) only [no0, no1, nz1, nz2, nz3, nz4, nz5, nz7, nz8, Classical.not_not, bz0, bz1, wi_nil, ld_0, ld_s, isIv_I, isLv_L, isRv_R, true_and, and_true, lset_0, lset_1, lset_s, avw_I, avw_L, avw_R, clr_cons, clr_nil, kst_0, kst_1, kstL_0, kstL_1, addk_I, pA_0, pA_s, pD_0, pD_s, wid_nil, wid_cons, rcv_c, putv_I, putv_L, List.length_cons, List.length_nil, List.set_cons_zero, List.set_cons_succ, not_false_eq_true, Nat.reduceMod, Nat.reduceDiv, Nat.reduceEqDiff, Nat.reduceLT, Nat.reduceLeDiff, Nat.reduceAdd, Nat.reduceSub, reduceIte, Nat.lt_irrefl, Nat.zero_ne_one, Nat.one_ne_zero, Nat.zero_add, List.nil_append, List.cons_append, Option.toList_some, Option.toList_none, forall_const, false_implies, true_implies, false_or, or_false, true_or, or_true, i_le, i_lt, i_eq, i_eq0, i_lt0, i_0le, i_0lt, i_le0, i_in1, i_cl, nI_add, pk_mul, pk_sub, i_div, i_rem, i_sh1, i_bit, i_or, i_and, i_andn, nt_le, nf_le, nt_lt, nf_lt, nt_eq, nf_eq, not_true_eq_false, and_self, and_false, false_and, eq_self, Bool.toNat_true, Bool.toNat_false, i_bool, i_bool1, Bool.false_eq_true, Bool.true_eq_false, reduceCtorEq, i_neg1, i_neg2, i_neg3, i_neg4, i_neg5, i_neg6, i_neg7, i_neg8, i_neg9, i_nega, i_negb, i_negc, i_max2, i_min2, hr, (y_n hy), wi_nil]
        repeat (
          first
          | refine s_X8_plan_0 ?_
          | refine s_X8_plan_13 ?_
          | refine s_X8_plan_16 ?_
          | refine s_X8_plan_18 ?_
          | refine s_X8_plan_31 ?_
          | refine s_X8_plan_43 ?_
          | refine s_X8_plan_53 ?_
          | refine s_X8_plan_82 ?_
          | refine s_X8_plan_88 ?_
          simp (disch := omega) only [B_X8_plan_0, wi_iload_n, wi_if_lt, wi_iconst, wi_icmp_gt, wi_invokestatic, B_X8_plan_13, wi_if_ne, B_X8_plan_16, wi_ireturn, B_X8_plan_18, wi_aload_n, wi_getfield, fldv_7_3, fds_7_3, cnt_7, fldv_6_7, fds_6_7, cnt_6, wi_bipush, B_X8_plan_31, fldv_7_7, fds_7_7, wi_invokevirtual, cnt_1, B_X8_plan_43, wi_istore_n, fldv_7_0, fds_7_0, cnt_3, B_X8_plan_53, wi_istore, B_X8_plan_56, wi_iload, wi_icmp_ge, fldv_1_3, fds_1_3, wi_iaload, cnt_14, aTy_14, aLn_14, arr_14, B_X8_plan_82, wi_iinc, wi_goto, B_X8_plan_88, no0, no1, nz1, nz2, nz3, nz4, nz5, nz7, nz8, Classical.not_not, bz0, bz1, wi_nil, ld_0, ld_s, isIv_I, isLv_L, isRv_R, true_and, and_true, lset_0, lset_1, lset_s, avw_I, avw_L, avw_R, clr_cons, clr_nil, kst_0, kst_1, kstL_0, kstL_1, addk_I, pA_0, pA_s, pD_0, pD_s, wid_nil, wid_cons, rcv_c, putv_I, putv_L, List.length_cons, List.length_nil, List.set_cons_zero, List.set_cons_succ, not_false_eq_true, Nat.reduceMod, Nat.reduceDiv, Nat.reduceEqDiff, Nat.reduceLT, Nat.reduceLeDiff, Nat.reduceAdd, Nat.reduceSub, reduceIte, Nat.lt_irrefl, Nat.zero_ne_one, Nat.one_ne_zero, Nat.zero_add, List.nil_append, List.cons_append, Option.toList_some, Option.toList_none, forall_const, false_implies, true_implies, false_or, or_false, true_or, or_true, i_le, i_lt, i_eq, i_eq0, i_lt0, i_0le, i_0lt, i_le0, i_in1, i_cl, nI_add, pk_mul, pk_sub, i_div, i_rem, i_sh1, i_bit, i_or, i_and, i_andn, nt_le, nf_le, nt_lt, nf_lt, nt_eq, nf_eq, not_true_eq_false, and_self, and_false, false_and, eq_self, Bool.toNat_true, Bool.toNat_false, i_bool, i_bool1, Bool.false_eq_true, Bool.true_eq_false, reduceCtorEq, i_neg1, i_neg2, i_neg3, i_neg4, i_neg5, i_neg6, i_neg7, i_neg8, i_neg9, i_nega, i_negb, i_negc, i_max2, i_min2, hr, (y_n hy)])
        refine c_best (by omega) hy hok (fun S2 h2 f2 => ?_)
        rw [hst] at h2 ⊢
        obtain ⟨-, h2, -⟩ := h2
        have h14 : ∀ t, t < n → gA S2 14 0 t = nI (dgs (2 ^ Y 6 0) n b t) := by
          rcases h2 with z | z
          · have z : k = 0 := z
            omega
          · exact z
        have fs2 : Fs S S2 := fs_fp f2
        try simp (disch := omega) only [no0, no1, nz1, nz2, nz3, nz4, nz5, nz7, nz8, Classical.not_not, bz0, bz1, wi_nil, ld_0, ld_s, isIv_I, isLv_L, isRv_R, true_and, and_true, lset_0, lset_1, lset_s, avw_I, avw_L, avw_R, clr_cons, clr_nil, kst_0, kst_1, kstL_0, kstL_1, addk_I, pA_0, pA_s, pD_0, pD_s, wid_nil, wid_cons, rcv_c, putv_I, putv_L, List.length_cons, List.length_nil, List.set_cons_zero, List.set_cons_succ, not_false_eq_true, Nat.reduceMod, Nat.reduceDiv, Nat.reduceEqDiff, Nat.reduceLT, Nat.reduceLeDiff, Nat.reduceAdd, Nat.reduceSub, reduceIte, Nat.lt_irrefl, Nat.zero_ne_one, Nat.one_ne_zero, Nat.zero_add, List.nil_append, List.cons_append, Option.toList_some, Option.toList_none, forall_const, false_implies, true_implies, false_or, or_false, true_or, or_true, i_le, i_lt, i_eq, i_eq0, i_lt0, i_0le, i_0lt, i_le0, i_in1, i_cl, nI_add, pk_mul, pk_sub, i_div, i_rem, i_sh1, i_bit, i_or, i_and, i_andn, nt_le, nf_le, nt_lt, nf_lt, nt_eq, nf_eq, not_true_eq_false, and_self, and_false, false_and, eq_self, Bool.toNat_true, Bool.toNat_false, i_bool, i_bool1, Bool.false_eq_true, Bool.true_eq_false, reduceCtorEq, i_neg1, i_neg2, i_neg3, i_neg4, i_neg5, i_neg6, i_neg7, i_neg8, i_neg9, i_nega, i_negb, i_negc, i_max2, i_min2, wi_nil]
        repeat (
          first
          | refine s_X8_plan_0 ?_
          | refine s_X8_plan_13 ?_
          | refine s_X8_plan_16 ?_
          | refine s_X8_plan_18 ?_
          | refine s_X8_plan_31 ?_
          | refine s_X8_plan_43 ?_
          | refine s_X8_plan_53 ?_
          | refine s_X8_plan_82 ?_
          | refine s_X8_plan_88 ?_
          simp (disch := omega) only [B_X8_plan_0, wi_iload_n, wi_if_lt, wi_iconst, wi_icmp_gt, wi_invokestatic, B_X8_plan_13, wi_if_ne, B_X8_plan_16, wi_ireturn, B_X8_plan_18, wi_aload_n, wi_getfield, fldv_7_3, fds_7_3, cnt_7, fldv_6_7, fds_6_7, cnt_6, wi_bipush, B_X8_plan_31, fldv_7_7, fds_7_7, wi_invokevirtual, cnt_1, B_X8_plan_43, wi_istore_n, fldv_7_0, fds_7_0, cnt_3, B_X8_plan_53, wi_istore, B_X8_plan_56, wi_iload, wi_icmp_ge, fldv_1_3, fds_1_3, wi_iaload, cnt_14, aTy_14, aLn_14, arr_14, B_X8_plan_82, wi_iinc, wi_goto, B_X8_plan_88, no0, no1, nz1, nz2, nz3, nz4, nz5, nz7, nz8, Classical.not_not, bz0, bz1, wi_nil, ld_0, ld_s, isIv_I, isLv_L, isRv_R, true_and, and_true, lset_0, lset_1, lset_s, avw_I, avw_L, avw_R, clr_cons, clr_nil, kst_0, kst_1, kstL_0, kstL_1, addk_I, pA_0, pA_s, pD_0, pD_s, wid_nil, wid_cons, rcv_c, putv_I, putv_L, List.length_cons, List.length_nil, List.set_cons_zero, List.set_cons_succ, not_false_eq_true, Nat.reduceMod, Nat.reduceDiv, Nat.reduceEqDiff, Nat.reduceLT, Nat.reduceLeDiff, Nat.reduceAdd, Nat.reduceSub, reduceIte, Nat.lt_irrefl, Nat.zero_ne_one, Nat.one_ne_zero, Nat.zero_add, List.nil_append, List.cons_append, Option.toList_some, Option.toList_none, forall_const, false_implies, true_implies, false_or, or_false, true_or, or_true, i_le, i_lt, i_eq, i_eq0, i_lt0, i_0le, i_0lt, i_le0, i_in1, i_cl, nI_add, pk_mul, pk_sub, i_div, i_rem, i_sh1, i_bit, i_or, i_and, i_andn, nt_le, nf_le, nt_lt, nf_lt, nt_eq, nf_eq, not_true_eq_false, and_self, and_false, false_and, eq_self, Bool.toNat_true, Bool.toNat_false, i_bool, i_bool1, Bool.false_eq_true, Bool.true_eq_false, reduceCtorEq, i_neg1, i_neg2, i_neg3, i_neg4, i_neg5, i_neg6, i_neg7, i_neg8, i_neg9, i_nega, i_negb, i_negc, i_max2, i_min2])
        refine c_Rmake hr6 (by omega) ?_
        try simp (disch := omega) only [no0, no1, nz1, nz2, nz3, nz4, nz5, nz7, nz8, Classical.not_not, bz0, bz1, wi_nil, ld_0, ld_s, isIv_I, isLv_L, isRv_R, true_and, and_true, lset_0, lset_1, lset_s, avw_I, avw_L, avw_R, clr_cons, clr_nil, kst_0, kst_1, kstL_0, kstL_1, addk_I, pA_0, pA_s, pD_0, pD_s, wid_nil, wid_cons, rcv_c, putv_I, putv_L, List.length_cons, List.length_nil, List.set_cons_zero, List.set_cons_succ, not_false_eq_true, Nat.reduceMod, Nat.reduceDiv, Nat.reduceEqDiff, Nat.reduceLT, Nat.reduceLeDiff, Nat.reduceAdd, Nat.reduceSub, reduceIte, Nat.lt_irrefl, Nat.zero_ne_one, Nat.one_ne_zero, Nat.zero_add, List.nil_append, List.cons_append, Option.toList_some, Option.toList_none, forall_const, false_implies, true_implies, false_or, or_false, true_or, or_true, i_le, i_lt, i_eq, i_eq0, i_lt0, i_0le, i_0lt, i_le0, i_in1, i_cl, nI_add, pk_mul, pk_sub, i_div, i_rem, i_sh1, i_bit, i_or, i_and, i_andn, nt_le, nf_le, nt_lt, nf_lt, nt_eq, nf_eq, not_true_eq_false, and_self, and_false, false_and, eq_self, Bool.toNat_true, Bool.toNat_false, i_bool, i_bool1, Bool.false_eq_true, Bool.true_eq_false, reduceCtorEq, i_neg1, i_neg2, i_neg3, i_neg4, i_neg5, i_neg6, i_neg7, i_neg8, i_neg9, i_nega, i_negb, i_negc, i_max2, i_min2, wi_nil]
        repeat (
          first
          | refine s_X8_plan_0 ?_
          | refine s_X8_plan_13 ?_
          | refine s_X8_plan_16 ?_
          | refine s_X8_plan_18 ?_
          | refine s_X8_plan_31 ?_
          | refine s_X8_plan_43 ?_
          | refine s_X8_plan_53 ?_
          | refine s_X8_plan_82 ?_
          | refine s_X8_plan_88 ?_
          simp (disch := omega) only [B_X8_plan_0, wi_iload_n, wi_if_lt, wi_iconst, wi_icmp_gt, wi_invokestatic, B_X8_plan_13, wi_if_ne, B_X8_plan_16, wi_ireturn, B_X8_plan_18, wi_aload_n, wi_getfield, fldv_7_3, fds_7_3, cnt_7, fldv_6_7, fds_6_7, cnt_6, wi_bipush, B_X8_plan_31, fldv_7_7, fds_7_7, wi_invokevirtual, cnt_1, B_X8_plan_43, wi_istore_n, fldv_7_0, fds_7_0, cnt_3, B_X8_plan_53, wi_istore, B_X8_plan_56, wi_iload, wi_icmp_ge, fldv_1_3, fds_1_3, wi_iaload, cnt_14, aTy_14, aLn_14, arr_14, B_X8_plan_82, wi_iinc, wi_goto, B_X8_plan_88, no0, no1, nz1, nz2, nz3, nz4, nz5, nz7, nz8, Classical.not_not, bz0, bz1, wi_nil, ld_0, ld_s, isIv_I, isLv_L, isRv_R, true_and, and_true, lset_0, lset_1, lset_s, avw_I, avw_L, avw_R, clr_cons, clr_nil, kst_0, kst_1, kstL_0, kstL_1, addk_I, pA_0, pA_s, pD_0, pD_s, wid_nil, wid_cons, rcv_c, putv_I, putv_L, List.length_cons, List.length_nil, List.set_cons_zero, List.set_cons_succ, not_false_eq_true, Nat.reduceMod, Nat.reduceDiv, Nat.reduceEqDiff, Nat.reduceLT, Nat.reduceLeDiff, Nat.reduceAdd, Nat.reduceSub, reduceIte, Nat.lt_irrefl, Nat.zero_ne_one, Nat.one_ne_zero, Nat.zero_add, List.nil_append, List.cons_append, Option.toList_some, Option.toList_none, forall_const, false_implies, true_implies, false_or, or_false, true_or, or_true, i_le, i_lt, i_eq, i_eq0, i_lt0, i_0le, i_0lt, i_le0, i_in1, i_cl, nI_add, pk_mul, pk_sub, i_div, i_rem, i_sh1, i_bit, i_or, i_and, i_andn, nt_le, nf_le, nt_lt, nf_lt, nt_eq, nf_eq, not_true_eq_false, and_self, and_false, false_and, eq_self, Bool.toNat_true, Bool.toNat_false, i_bool, i_bool1, Bool.false_eq_true, Bool.true_eq_false, reduceCtorEq, i_neg1, i_neg2, i_neg3, i_neg4, i_neg5, i_neg6, i_neg7, i_neg8, i_neg9, i_nega, i_negb, i_negc, i_max2, i_min2])
        refine l_xwrite (S0 := sA S2 15 0 (upd (gA S2 15 0) r (nI n))) (D := dgs (2 ^ Y 6 0) n b) (by omega) hr6 h14 (fun g g1 g2 => ?_) n 0 _ (by omega) (fun i hi => absurd hi (Nat.not_lt_zero i)) (fun p hp => ?_)
        · refine px ?_
          have fr1 : Fr (pN 1) S (sA (sA S2 15 0 (upd (gA S2 15 0) r (nI n))) 16 0 g) := (fs2.pn.trans (fr_sA rfl)).trans (fr_sA rfl)
          have hm1 : YrM (sA (sA S2 15 0 (upd (gA S2 15 0) r (nI n))) 16 0 g) 40 Y := yrm_fr hm fr1 rfl rfl
          refine x_entry (ls2 := [aR 8 0, aI (nI n), aI (nI r), aU, aU, aU, aU, aU, aU]) (Nat.le_of_ble_eq_true rfl) pl_9 rfl (Nat.le_of_ble_eq_true rfl) ?_
          try simp (disch := omega) only [no0, no1, nz1, nz2, nz3, nz4, nz5, nz7, nz8, Classical.not_not, bz0, bz1, wi_nil, ld_0, ld_s, isIv_I, isLv_L, isRv_R, true_and, and_true, lset_0, lset_1, lset_s, avw_I, avw_L, avw_R, clr_cons, clr_nil, kst_0, kst_1, kstL_0, kstL_1, addk_I, pA_0, pA_s, pD_0, pD_s, wid_nil, wid_cons, rcv_c, putv_I, putv_L, List.length_cons, List.length_nil, List.set_cons_zero, List.set_cons_succ, not_false_eq_true, Nat.reduceMod, Nat.reduceDiv, Nat.reduceEqDiff, Nat.reduceLT, Nat.reduceLeDiff, Nat.reduceAdd, Nat.reduceSub, reduceIte, Nat.lt_irrefl, Nat.zero_ne_one, Nat.one_ne_zero, Nat.zero_add, List.nil_append, List.cons_append, Option.toList_some, Option.toList_none, forall_const, false_implies, true_implies, false_or, or_false, true_or, or_true, i_le, i_lt, i_eq, i_eq0, i_lt0, i_0le, i_0lt, i_le0, i_in1, i_cl, nI_add, pk_mul, pk_sub, i_div, i_rem, i_sh1, i_bit, i_or, i_and, i_andn, nt_le, nf_le, nt_lt, nf_lt, nt_eq, nf_eq, not_true_eq_false, and_self, and_false, false_and, eq_self, Bool.toNat_true, Bool.toNat_false, i_bool, i_bool1, Bool.false_eq_true, Bool.true_eq_false, reduceCtorEq, i_neg1, i_neg2, i_neg3, i_neg4, i_neg5, i_neg6, i_neg7, i_neg8, i_neg9, i_nega, i_negb, i_negc, i_max2, i_min2, wi_nil]
          repeat (
            first
            | refine s_X9_plan_0 ?_
            | refine s_X9_plan_7 ?_
            | refine s_X9_plan_14 ?_
            | refine s_X9_plan_21 ?_
            | refine s_X9_plan_22 ?_
            | refine s_X9_plan_25 ?_
            | refine s_X9_plan_32 ?_
            | refine s_X9_plan_61 ?_
            | refine s_X9_plan_84 ?_
            | refine s_X9_plan_98 ?_
            | refine s_X9_plan_100 ?_
            | refine s_X9_plan_114 ?_
            | refine s_X9_plan_116 ?_
            | refine s_X9_plan_124 ?_
            | refine s_X9_plan_131 ?_
            | refine s_X9_plan_173 ?_
            simp (disch := omega) only [B_X9_plan_0, wi_aload_n, wi_iload_n, wi_iconst, wi_invokestatic, B_X9_plan_7, wi_if_eq, B_X9_plan_14, wi_goto, B_X9_plan_21, B_X9_plan_22, wi_invokevirtual, cnt_8, B_X9_plan_25, wi_istore_n, wi_if_ge, wi_ireturn, B_X9_plan_32, wi_istore, B_X9_plan_38, wi_iload, wi_icmp_ge, wi_getfield, fldv_8_10, fds_8_10, wi_ishl, wi_imul, wi_iinc, B_X9_plan_61, B_X9_plan_70, B_X9_plan_84, wi_icmp_le, B_X9_plan_98, B_X9_plan_100, B_X9_plan_114, B_X9_plan_116, B_X9_plan_124, B_X9_plan_131, wi_pop, fldv_8_5, fds_8_5, wi_iastore, cnt_31, aTy_31, aLn_31, arr_31, cnt_32, aTy_32, aLn_32, arr_32, cnt_47, aTy_47, aLn_47, arr_47, B_X9_plan_142, fldv_8_6, fds_8_6, wi_bipush, wi_iadd, fldv_8_28, fds_8_28, wi_iaload, B_X9_plan_173, no0, no1, nz1, nz2, nz3, nz4, nz5, nz7, nz8, Classical.not_not, bz0, bz1, wi_nil, ld_0, ld_s, isIv_I, isLv_L, isRv_R, true_and, and_true, lset_0, lset_1, lset_s, avw_I, avw_L, avw_R, clr_cons, clr_nil, kst_0, kst_1, kstL_0, kstL_1, addk_I, pA_0, pA_s, pD_0, pD_s, wid_nil, wid_cons, rcv_c, putv_I, putv_L, List.length_cons, List.length_nil, List.set_cons_zero, List.set_cons_succ, not_false_eq_true, Nat.reduceMod, Nat.reduceDiv, Nat.reduceEqDiff, Nat.reduceLT, Nat.reduceLeDiff, Nat.reduceAdd, Nat.reduceSub, reduceIte, Nat.lt_irrefl, Nat.zero_ne_one, Nat.one_ne_zero, Nat.zero_add, List.nil_append, List.cons_append, Option.toList_some, Option.toList_none, forall_const, false_implies, true_implies, false_or, or_false, true_or, or_true, i_le, i_lt, i_eq, i_eq0, i_lt0, i_0le, i_0lt, i_le0, i_in1, i_cl, nI_add, pk_mul, pk_sub, i_div, i_rem, i_sh1, i_bit, i_or, i_and, i_andn, nt_le, nf_le, nt_lt, nf_lt, nt_eq, nf_eq, not_true_eq_false, and_self, and_false, false_and, eq_self, Bool.toNat_true, Bool.toNat_false, i_bool, i_bool1, Bool.false_eq_true, Bool.true_eq_false, reduceCtorEq, i_neg1, i_neg2, i_neg3, i_neg4, i_neg5, i_neg6, i_neg7, i_neg8, i_neg9, i_nega, i_negb, i_negc, i_max2, i_min2])
          refine c_in (inb_le (N := 3) (by decide)) ?_
          try simp (disch := omega) only [no0, no1, nz1, nz2, nz3, nz4, nz5, nz7, nz8, Classical.not_not, bz0, bz1, wi_nil, ld_0, ld_s, isIv_I, isLv_L, isRv_R, true_and, and_true, lset_0, lset_1, lset_s, avw_I, avw_L, avw_R, clr_cons, clr_nil, kst_0, kst_1, kstL_0, kstL_1, addk_I, pA_0, pA_s, pD_0, pD_s, wid_nil, wid_cons, rcv_c, putv_I, putv_L, List.length_cons, List.length_nil, List.set_cons_zero, List.set_cons_succ, not_false_eq_true, Nat.reduceMod, Nat.reduceDiv, Nat.reduceEqDiff, Nat.reduceLT, Nat.reduceLeDiff, Nat.reduceAdd, Nat.reduceSub, reduceIte, Nat.lt_irrefl, Nat.zero_ne_one, Nat.one_ne_zero, Nat.zero_add, List.nil_append, List.cons_append, Option.toList_some, Option.toList_none, forall_const, false_implies, true_implies, false_or, or_false, true_or, or_true, i_le, i_lt, i_eq, i_eq0, i_lt0, i_0le, i_0lt, i_le0, i_in1, i_cl, nI_add, pk_mul, pk_sub, i_div, i_rem, i_sh1, i_bit, i_or, i_and, i_andn, nt_le, nf_le, nt_lt, nf_lt, nt_eq, nf_eq, not_true_eq_false, and_self, and_false, false_and, eq_self, Bool.toNat_true, Bool.toNat_false, i_bool, i_bool1, Bool.false_eq_true, Bool.true_eq_false, reduceCtorEq, i_neg1, i_neg2, i_neg3, i_neg4, i_neg5, i_neg6, i_neg7, i_neg8, i_neg9, i_nega, i_negb, i_negc, i_max2, i_min2, hn, wi_nil]
          repeat (
            first
            | refine s_X9_plan_0 ?_
            | refine s_X9_plan_7 ?_
            | refine s_X9_plan_14 ?_
            | refine s_X9_plan_21 ?_
            | refine s_X9_plan_22 ?_
            | refine s_X9_plan_25 ?_
            | refine s_X9_plan_32 ?_
            | refine s_X9_plan_61 ?_
            | refine s_X9_plan_84 ?_
            | refine s_X9_plan_98 ?_
            | refine s_X9_plan_100 ?_
            | refine s_X9_plan_114 ?_
            | refine s_X9_plan_116 ?_
            | refine s_X9_plan_124 ?_
            | refine s_X9_plan_131 ?_
            | refine s_X9_plan_173 ?_
            simp (disch := omega) only [B_X9_plan_0, wi_aload_n, wi_iload_n, wi_iconst, wi_invokestatic, B_X9_plan_7, wi_if_eq, B_X9_plan_14, wi_goto, B_X9_plan_21, B_X9_plan_22, wi_invokevirtual, cnt_8, B_X9_plan_25, wi_istore_n, wi_if_ge, wi_ireturn, B_X9_plan_32, wi_istore, B_X9_plan_38, wi_iload, wi_icmp_ge, wi_getfield, fldv_8_10, fds_8_10, wi_ishl, wi_imul, wi_iinc, B_X9_plan_61, B_X9_plan_70, B_X9_plan_84, wi_icmp_le, B_X9_plan_98, B_X9_plan_100, B_X9_plan_114, B_X9_plan_116, B_X9_plan_124, B_X9_plan_131, wi_pop, fldv_8_5, fds_8_5, wi_iastore, cnt_31, aTy_31, aLn_31, arr_31, cnt_32, aTy_32, aLn_32, arr_32, cnt_47, aTy_47, aLn_47, arr_47, B_X9_plan_142, fldv_8_6, fds_8_6, wi_bipush, wi_iadd, fldv_8_28, fds_8_28, wi_iaload, B_X9_plan_173, no0, no1, nz1, nz2, nz3, nz4, nz5, nz7, nz8, Classical.not_not, bz0, bz1, wi_nil, ld_0, ld_s, isIv_I, isLv_L, isRv_R, true_and, and_true, lset_0, lset_1, lset_s, avw_I, avw_L, avw_R, clr_cons, clr_nil, kst_0, kst_1, kstL_0, kstL_1, addk_I, pA_0, pA_s, pD_0, pD_s, wid_nil, wid_cons, rcv_c, putv_I, putv_L, List.length_cons, List.length_nil, List.set_cons_zero, List.set_cons_succ, not_false_eq_true, Nat.reduceMod, Nat.reduceDiv, Nat.reduceEqDiff, Nat.reduceLT, Nat.reduceLeDiff, Nat.reduceAdd, Nat.reduceSub, reduceIte, Nat.lt_irrefl, Nat.zero_ne_one, Nat.one_ne_zero, Nat.zero_add, List.nil_append, List.cons_append, Option.toList_some, Option.toList_none, forall_const, false_implies, true_implies, false_or, or_false, true_or, or_true, i_le, i_lt, i_eq, i_eq0, i_lt0, i_0le, i_0lt, i_le0, i_in1, i_cl, nI_add, pk_mul, pk_sub, i_div, i_rem, i_sh1, i_bit, i_or, i_and, i_andn, nt_le, nf_le, nt_lt, nf_lt, nt_eq, nf_eq, not_true_eq_false, and_self, and_false, false_and, eq_self, Bool.toNat_true, Bool.toNat_false, i_bool, i_bool1, Bool.false_eq_true, Bool.true_eq_false, reduceCtorEq, i_neg1, i_neg2, i_neg3, i_neg4, i_neg5, i_neg6, i_neg7, i_neg8, i_neg9, i_nega, i_negb, i_negc, i_max2, i_min2, hn])
          refine c_mRow ?_
          try simp (disch := omega) only [no0, no1, nz1, nz2, nz3, nz4, nz5, nz7, nz8, Classical.not_not, bz0, bz1, wi_nil, ld_0, ld_s, isIv_I, isLv_L, isRv_R, true_and, and_true, lset_0, lset_1, lset_s, avw_I, avw_L, avw_R, clr_cons, clr_nil, kst_0, kst_1, kstL_0, kstL_1, addk_I, pA_0, pA_s, pD_0, pD_s, wid_nil, wid_cons, rcv_c, putv_I, putv_L, List.length_cons, List.length_nil, List.set_cons_zero, List.set_cons_succ, not_false_eq_true, Nat.reduceMod, Nat.reduceDiv, Nat.reduceEqDiff, Nat.reduceLT, Nat.reduceLeDiff, Nat.reduceAdd, Nat.reduceSub, reduceIte, Nat.lt_irrefl, Nat.zero_ne_one, Nat.one_ne_zero, Nat.zero_add, List.nil_append, List.cons_append, Option.toList_some, Option.toList_none, forall_const, false_implies, true_implies, false_or, or_false, true_or, or_true, i_le, i_lt, i_eq, i_eq0, i_lt0, i_0le, i_0lt, i_le0, i_in1, i_cl, nI_add, pk_mul, pk_sub, i_div, i_rem, i_sh1, i_bit, i_or, i_and, i_andn, nt_le, nf_le, nt_lt, nf_lt, nt_eq, nf_eq, not_true_eq_false, and_self, and_false, false_and, eq_self, Bool.toNat_true, Bool.toNat_false, i_bool, i_bool1, Bool.false_eq_true, Bool.true_eq_false, reduceCtorEq, i_neg1, i_neg2, i_neg3, i_neg4, i_neg5, i_neg6, i_neg7, i_neg8, i_neg9, i_nega, i_negb, i_negc, i_max2, i_min2, hr, wi_nil]
          repeat (
            first
            | refine s_X9_plan_0 ?_
            | refine s_X9_plan_7 ?_
            | refine s_X9_plan_14 ?_
            | refine s_X9_plan_21 ?_
            | refine s_X9_plan_22 ?_
            | refine s_X9_plan_25 ?_
            | refine s_X9_plan_32 ?_
            | refine s_X9_plan_61 ?_
            | refine s_X9_plan_84 ?_
            | refine s_X9_plan_98 ?_
            | refine s_X9_plan_100 ?_
            | refine s_X9_plan_114 ?_
            | refine s_X9_plan_116 ?_
            | refine s_X9_plan_124 ?_
            | refine s_X9_plan_131 ?_
            | refine s_X9_plan_173 ?_
            simp (disch := omega) only [B_X9_plan_0, wi_aload_n, wi_iload_n, wi_iconst, wi_invokestatic, B_X9_plan_7, wi_if_eq, B_X9_plan_14, wi_goto, B_X9_plan_21, B_X9_plan_22, wi_invokevirtual, cnt_8, B_X9_plan_25, wi_istore_n, wi_if_ge, wi_ireturn, B_X9_plan_32, wi_istore, B_X9_plan_38, wi_iload, wi_icmp_ge, wi_getfield, fldv_8_10, fds_8_10, wi_ishl, wi_imul, wi_iinc, B_X9_plan_61, B_X9_plan_70, B_X9_plan_84, wi_icmp_le, B_X9_plan_98, B_X9_plan_100, B_X9_plan_114, B_X9_plan_116, B_X9_plan_124, B_X9_plan_131, wi_pop, fldv_8_5, fds_8_5, wi_iastore, cnt_31, aTy_31, aLn_31, arr_31, cnt_32, aTy_32, aLn_32, arr_32, cnt_47, aTy_47, aLn_47, arr_47, B_X9_plan_142, fldv_8_6, fds_8_6, wi_bipush, wi_iadd, fldv_8_28, fds_8_28, wi_iaload, B_X9_plan_173, no0, no1, nz1, nz2, nz3, nz4, nz5, nz7, nz8, Classical.not_not, bz0, bz1, wi_nil, ld_0, ld_s, isIv_I, isLv_L, isRv_R, true_and, and_true, lset_0, lset_1, lset_s, avw_I, avw_L, avw_R, clr_cons, clr_nil, kst_0, kst_1, kstL_0, kstL_1, addk_I, pA_0, pA_s, pD_0, pD_s, wid_nil, wid_cons, rcv_c, putv_I, putv_L, List.length_cons, List.length_nil, List.set_cons_zero, List.set_cons_succ, not_false_eq_true, Nat.reduceMod, Nat.reduceDiv, Nat.reduceEqDiff, Nat.reduceLT, Nat.reduceLeDiff, Nat.reduceAdd, Nat.reduceSub, reduceIte, Nat.lt_irrefl, Nat.zero_ne_one, Nat.one_ne_zero, Nat.zero_add, List.nil_append, List.cons_append, Option.toList_some, Option.toList_none, forall_const, false_implies, true_implies, false_or, or_false, true_or, or_true, i_le, i_lt, i_eq, i_eq0, i_lt0, i_0le, i_0lt, i_le0, i_in1, i_cl, nI_add, pk_mul, pk_sub, i_div, i_rem, i_sh1, i_bit, i_or, i_and, i_andn, nt_le, nf_le, nt_lt, nf_lt, nt_eq, nf_eq, not_true_eq_false, and_self, and_false, false_and, eq_self, Bool.toNat_true, Bool.toNat_false, i_bool, i_bool1, Bool.false_eq_true, Bool.true_eq_false, reduceCtorEq, i_neg1, i_neg2, i_neg3, i_neg4, i_neg5, i_neg6, i_neg7, i_neg8, i_neg9, i_nega, i_negb, i_negc, i_max2, i_min2, hr])
          refine c_needK hm1 hn5 e0 ?_
          try simp (disch := omega) only [no0, no1, nz1, nz2, nz3, nz4, nz5, nz7, nz8, Classical.not_not, bz0, bz1, wi_nil, ld_0, ld_s, isIv_I, isLv_L, isRv_R, true_and, and_true, lset_0, lset_1, lset_s, avw_I, avw_L, avw_R, clr_cons, clr_nil, kst_0, kst_1, kstL_0, kstL_1, addk_I, pA_0, pA_s, pD_0, pD_s, wid_nil, wid_cons, rcv_c, putv_I, putv_L, List.length_cons, List.length_nil, List.set_cons_zero, List.set_cons_succ, not_false_eq_true, Nat.reduceMod, Nat.reduceDiv, Nat.reduceEqDiff, Nat.reduceLT, Nat.reduceLeDiff, Nat.reduceAdd, Nat.reduceSub, reduceIte, Nat.lt_irrefl, Nat.zero_ne_one, Nat.one_ne_zero, Nat.zero_add, List.nil_append, List.cons_append, Option.toList_some, Option.toList_none, forall_const, false_implies, true_implies, false_or, or_false, true_or, or_true, i_le, i_lt, i_eq, i_eq0, i_lt0, i_0le, i_0lt, i_le0, i_in1, i_cl, nI_add, pk_mul, pk_sub, i_div, i_rem, i_sh1, i_bit, i_or, i_and, i_andn, nt_le, nf_le, nt_lt, nf_lt, nt_eq, nf_eq, not_true_eq_false, and_self, and_false, false_and, eq_self, Bool.toNat_true, Bool.toNat_false, i_bool, i_bool1, Bool.false_eq_true, Bool.true_eq_false, reduceCtorEq, i_neg1, i_neg2, i_neg3, i_neg4, i_neg5, i_neg6, i_neg7, i_neg8, i_neg9, i_nega, i_negb, i_negc, i_max2, i_min2, wi_nil]
          repeat (
            first
            | refine s_X9_plan_0 ?_
            | refine s_X9_plan_7 ?_
            | refine s_X9_plan_14 ?_
            | refine s_X9_plan_21 ?_
            | refine s_X9_plan_22 ?_
            | refine s_X9_plan_25 ?_
            | refine s_X9_plan_32 ?_
            | refine s_X9_plan_61 ?_
            | refine s_X9_plan_84 ?_
            | refine s_X9_plan_98 ?_
            | refine s_X9_plan_100 ?_
            | refine s_X9_plan_114 ?_
            | refine s_X9_plan_116 ?_
            | refine s_X9_plan_124 ?_
            | refine s_X9_plan_131 ?_
            | refine s_X9_plan_173 ?_
            simp (disch := omega) only [B_X9_plan_0, wi_aload_n, wi_iload_n, wi_iconst, wi_invokestatic, B_X9_plan_7, wi_if_eq, B_X9_plan_14, wi_goto, B_X9_plan_21, B_X9_plan_22, wi_invokevirtual, cnt_8, B_X9_plan_25, wi_istore_n, wi_if_ge, wi_ireturn, B_X9_plan_32, wi_istore, B_X9_plan_38, wi_iload, wi_icmp_ge, wi_getfield, fldv_8_10, fds_8_10, wi_ishl, wi_imul, wi_iinc, B_X9_plan_61, B_X9_plan_70, B_X9_plan_84, wi_icmp_le, B_X9_plan_98, B_X9_plan_100, B_X9_plan_114, B_X9_plan_116, B_X9_plan_124, B_X9_plan_131, wi_pop, fldv_8_5, fds_8_5, wi_iastore, cnt_31, aTy_31, aLn_31, arr_31, cnt_32, aTy_32, aLn_32, arr_32, cnt_47, aTy_47, aLn_47, arr_47, B_X9_plan_142, fldv_8_6, fds_8_6, wi_bipush, wi_iadd, fldv_8_28, fds_8_28, wi_iaload, B_X9_plan_173, no0, no1, nz1, nz2, nz3, nz4, nz5, nz7, nz8, Classical.not_not, bz0, bz1, wi_nil, ld_0, ld_s, isIv_I, isLv_L, isRv_R, true_and, and_true, lset_0, lset_1, lset_s, avw_I, avw_L, avw_R, clr_cons, clr_nil, kst_0, kst_1, kstL_0, kstL_1, addk_I, pA_0, pA_s, pD_0, pD_s, wid_nil, wid_cons, rcv_c, putv_I, putv_L, List.length_cons, List.length_nil, List.set_cons_zero, List.set_cons_succ, not_false_eq_true, Nat.reduceMod, Nat.reduceDiv, Nat.reduceEqDiff, Nat.reduceLT, Nat.reduceLeDiff, Nat.reduceAdd, Nat.reduceSub, reduceIte, Nat.lt_irrefl, Nat.zero_ne_one, Nat.one_ne_zero, Nat.zero_add, List.nil_append, List.cons_append, Option.toList_some, Option.toList_none, forall_const, false_implies, true_implies, false_or, or_false, true_or, or_true, i_le, i_lt, i_eq, i_eq0, i_lt0, i_0le, i_0lt, i_le0, i_in1, i_cl, nI_add, pk_mul, pk_sub, i_div, i_rem, i_sh1, i_bit, i_or, i_and, i_andn, nt_le, nf_le, nt_lt, nf_lt, nt_eq, nf_eq, not_true_eq_false, and_self, and_false, false_and, eq_self, Bool.toNat_true, Bool.toNat_false, i_bool, i_bool1, Bool.false_eq_true, Bool.true_eq_false, reduceCtorEq, i_neg1, i_neg2, i_neg3, i_neg4, i_neg5, i_neg6, i_neg7, i_neg8, i_neg9, i_nega, i_negb, i_negc, i_max2, i_min2])
          refine l_pow (Y := Y) (n := n) (by omega) hn5 (m_n hm1) ?_ n 0 (by omega)
          rw [hC]
          try simp (disch := omega) only [no0, no1, nz1, nz2, nz3, nz4, nz5, nz7, nz8, Classical.not_not, bz0, bz1, wi_nil, ld_0, ld_s, isIv_I, isLv_L, isRv_R, true_and, and_true, lset_0, lset_1, lset_s, avw_I, avw_L, avw_R, clr_cons, clr_nil, kst_0, kst_1, kstL_0, kstL_1, addk_I, pA_0, pA_s, pD_0, pD_s, wid_nil, wid_cons, rcv_c, putv_I, putv_L, List.length_cons, List.length_nil, List.set_cons_zero, List.set_cons_succ, not_false_eq_true, Nat.reduceMod, Nat.reduceDiv, Nat.reduceEqDiff, Nat.reduceLT, Nat.reduceLeDiff, Nat.reduceAdd, Nat.reduceSub, reduceIte, Nat.lt_irrefl, Nat.zero_ne_one, Nat.one_ne_zero, Nat.zero_add, List.nil_append, List.cons_append, Option.toList_some, Option.toList_none, forall_const, false_implies, true_implies, false_or, or_false, true_or, or_true, i_le, i_lt, i_eq, i_eq0, i_lt0, i_0le, i_0lt, i_le0, i_in1, i_cl, nI_add, pk_mul, pk_sub, i_div, i_rem, i_sh1, i_bit, i_or, i_and, i_andn, nt_le, nf_le, nt_lt, nf_lt, nt_eq, nf_eq, not_true_eq_false, and_self, and_false, false_and, eq_self, Bool.toNat_true, Bool.toNat_false, i_bool, i_bool1, Bool.false_eq_true, Bool.true_eq_false, reduceCtorEq, i_neg1, i_neg2, i_neg3, i_neg4, i_neg5, i_neg6, i_neg7, i_neg8, i_neg9, i_nega, i_negb, i_negc, i_max2, i_min2, wi_nil]
          repeat (
            first
            | refine s_X9_plan_0 ?_
            | refine s_X9_plan_7 ?_
            | refine s_X9_plan_14 ?_
            | refine s_X9_plan_21 ?_
            | refine s_X9_plan_22 ?_
            | refine s_X9_plan_25 ?_
            | refine s_X9_plan_32 ?_
            | refine s_X9_plan_61 ?_
            | refine s_X9_plan_84 ?_
            | refine s_X9_plan_98 ?_
            | refine s_X9_plan_100 ?_
            | refine s_X9_plan_114 ?_
            | refine s_X9_plan_116 ?_
            | refine s_X9_plan_124 ?_
            | refine s_X9_plan_131 ?_
            | refine s_X9_plan_173 ?_
            simp (disch := omega) only [B_X9_plan_0, wi_aload_n, wi_iload_n, wi_iconst, wi_invokestatic, B_X9_plan_7, wi_if_eq, B_X9_plan_14, wi_goto, B_X9_plan_21, B_X9_plan_22, wi_invokevirtual, cnt_8, B_X9_plan_25, wi_istore_n, wi_if_ge, wi_ireturn, B_X9_plan_32, wi_istore, B_X9_plan_38, wi_iload, wi_icmp_ge, wi_getfield, fldv_8_10, fds_8_10, wi_ishl, wi_imul, wi_iinc, B_X9_plan_61, B_X9_plan_70, B_X9_plan_84, wi_icmp_le, B_X9_plan_98, B_X9_plan_100, B_X9_plan_114, B_X9_plan_116, B_X9_plan_124, B_X9_plan_131, wi_pop, fldv_8_5, fds_8_5, wi_iastore, cnt_31, aTy_31, aLn_31, arr_31, cnt_32, aTy_32, aLn_32, arr_32, cnt_47, aTy_47, aLn_47, arr_47, B_X9_plan_142, fldv_8_6, fds_8_6, wi_bipush, wi_iadd, fldv_8_28, fds_8_28, wi_iaload, B_X9_plan_173, no0, no1, nz1, nz2, nz3, nz4, nz5, nz7, nz8, Classical.not_not, bz0, bz1, wi_nil, ld_0, ld_s, isIv_I, isLv_L, isRv_R, true_and, and_true, lset_0, lset_1, lset_s, avw_I, avw_L, avw_R, clr_cons, clr_nil, kst_0, kst_1, kstL_0, kstL_1, addk_I, pA_0, pA_s, pD_0, pD_s, wid_nil, wid_cons, rcv_c, putv_I, putv_L, List.length_cons, List.length_nil, List.set_cons_zero, List.set_cons_succ, not_false_eq_true, Nat.reduceMod, Nat.reduceDiv, Nat.reduceEqDiff, Nat.reduceLT, Nat.reduceLeDiff, Nat.reduceAdd, Nat.reduceSub, reduceIte, Nat.lt_irrefl, Nat.zero_ne_one, Nat.one_ne_zero, Nat.zero_add, List.nil_append, List.cons_append, Option.toList_some, Option.toList_none, forall_const, false_implies, true_implies, false_or, or_false, true_or, or_true, i_le, i_lt, i_eq, i_eq0, i_lt0, i_0le, i_0lt, i_le0, i_in1, i_cl, nI_add, pk_mul, pk_sub, i_div, i_rem, i_sh1, i_bit, i_or, i_and, i_andn, nt_le, nf_le, nt_lt, nf_lt, nt_eq, nf_eq, not_true_eq_false, and_self, and_false, false_and, eq_self, Bool.toNat_true, Bool.toNat_false, i_bool, i_bool1, Bool.false_eq_true, Bool.true_eq_false, reduceCtorEq, i_neg1, i_neg2, i_neg3, i_neg4, i_neg5, i_neg6, i_neg7, i_neg8, i_neg9, i_nega, i_negb, i_negc, i_max2, i_min2])
          refine l_best (Y := Y) (S0 := sA (sA S2 15 0 (upd (gA S2 15 0) r (nI n))) 16 0 g) (n := n) (C := C) (by omega) hCb hm1 hok (fun S3 f3 => ?_) C 0 _ (by omega) Fr.refl
          rw [hp]
          try dsimp only
          have hm3 := yrm_fr hm1 f3 rfl rfl
          refine s_X9_plan_124 ?_
          simp (disch := omega) only [B_X9_plan_124, wi_aload_n, wi_iload, wi_iload_n, wi_invokevirtual, cnt_8, no0, no1, nz1, nz2, nz3, nz4, nz5, nz7, nz8, Classical.not_not, bz0, bz1, wi_nil, ld_0, ld_s, isIv_I, isLv_L, isRv_R, true_and, and_true, lset_0, lset_1, lset_s, avw_I, avw_L, avw_R, clr_cons, clr_nil, kst_0, kst_1, kstL_0, kstL_1, addk_I, pA_0, pA_s, pD_0, pD_s, wid_nil, wid_cons, rcv_c, putv_I, putv_L, List.length_cons, List.length_nil, List.set_cons_zero, List.set_cons_succ, not_false_eq_true, Nat.reduceMod, Nat.reduceDiv, Nat.reduceEqDiff, Nat.reduceLT, Nat.reduceLeDiff, Nat.reduceAdd, Nat.reduceSub, reduceIte, Nat.lt_irrefl, Nat.zero_ne_one, Nat.one_ne_zero, Nat.zero_add, List.nil_append, List.cons_append, Option.toList_some, Option.toList_none, forall_const, false_implies, true_implies, false_or, or_false, true_or, or_true, i_le, i_lt, i_eq, i_eq0, i_lt0, i_0le, i_0lt, i_le0, i_in1, i_cl, nI_add, pk_mul, pk_sub, i_div, i_rem, i_sh1, i_bit, i_or, i_and, i_andn, nt_le, nf_le, nt_lt, nf_lt, nt_eq, nf_eq, not_true_eq_false, and_self, and_false, false_and, eq_self, Bool.toNat_true, Bool.toNat_false, i_bool, i_bool1, Bool.false_eq_true, Bool.true_eq_false, reduceCtorEq, i_neg1, i_neg2, i_neg3, i_neg4, i_neg5, i_neg6, i_neg7, i_neg8, i_neg9, i_nega, i_negb, i_negc, i_max2, i_min2]
          refine c_mkeptBy (by omega) (by omega) hm3 hok (fun S4 g4 f4 => ?_)
          try simp (disch := omega) only [no0, no1, nz1, nz2, nz3, nz4, nz5, nz7, nz8, Classical.not_not, bz0, bz1, wi_nil, ld_0, ld_s, isIv_I, isLv_L, isRv_R, true_and, and_true, lset_0, lset_1, lset_s, avw_I, avw_L, avw_R, clr_cons, clr_nil, kst_0, kst_1, kstL_0, kstL_1, addk_I, pA_0, pA_s, pD_0, pD_s, wid_nil, wid_cons, rcv_c, putv_I, putv_L, List.length_cons, List.length_nil, List.set_cons_zero, List.set_cons_succ, not_false_eq_true, Nat.reduceMod, Nat.reduceDiv, Nat.reduceEqDiff, Nat.reduceLT, Nat.reduceLeDiff, Nat.reduceAdd, Nat.reduceSub, reduceIte, Nat.lt_irrefl, Nat.zero_ne_one, Nat.one_ne_zero, Nat.zero_add, List.nil_append, List.cons_append, Option.toList_some, Option.toList_none, forall_const, false_implies, true_implies, false_or, or_false, true_or, or_true, i_le, i_lt, i_eq, i_eq0, i_lt0, i_0le, i_0lt, i_le0, i_in1, i_cl, nI_add, pk_mul, pk_sub, i_div, i_rem, i_sh1, i_bit, i_or, i_and, i_andn, nt_le, nf_le, nt_lt, nf_lt, nt_eq, nf_eq, not_true_eq_false, and_self, and_false, false_and, eq_self, Bool.toNat_true, Bool.toNat_false, i_bool, i_bool1, Bool.false_eq_true, Bool.true_eq_false, reduceCtorEq, i_neg1, i_neg2, i_neg3, i_neg4, i_neg5, i_neg6, i_neg7, i_neg8, i_neg9, i_nega, i_negb, i_negc, i_max2, i_min2, wi_nil]
          repeat (
            first
            | refine s_X9_plan_0 ?_
            | refine s_X9_plan_7 ?_
            | refine s_X9_plan_14 ?_
            | refine s_X9_plan_21 ?_
            | refine s_X9_plan_22 ?_
            | refine s_X9_plan_25 ?_
            | refine s_X9_plan_32 ?_
            | refine s_X9_plan_61 ?_
            | refine s_X9_plan_84 ?_
            | refine s_X9_plan_98 ?_
            | refine s_X9_plan_100 ?_
            | refine s_X9_plan_114 ?_
            | refine s_X9_plan_116 ?_
            | refine s_X9_plan_124 ?_
            | refine s_X9_plan_131 ?_
            | refine s_X9_plan_173 ?_
            simp (disch := omega) only [B_X9_plan_0, wi_aload_n, wi_iload_n, wi_iconst, wi_invokestatic, B_X9_plan_7, wi_if_eq, B_X9_plan_14, wi_goto, B_X9_plan_21, B_X9_plan_22, wi_invokevirtual, cnt_8, B_X9_plan_25, wi_istore_n, wi_if_ge, wi_ireturn, B_X9_plan_32, wi_istore, B_X9_plan_38, wi_iload, wi_icmp_ge, wi_getfield, fldv_8_10, fds_8_10, wi_ishl, wi_imul, wi_iinc, B_X9_plan_61, B_X9_plan_70, B_X9_plan_84, wi_icmp_le, B_X9_plan_98, B_X9_plan_100, B_X9_plan_114, B_X9_plan_116, B_X9_plan_124, B_X9_plan_131, wi_pop, fldv_8_5, fds_8_5, wi_iastore, cnt_31, aTy_31, aLn_31, arr_31, cnt_32, aTy_32, aLn_32, arr_32, cnt_47, aTy_47, aLn_47, arr_47, B_X9_plan_142, fldv_8_6, fds_8_6, wi_bipush, wi_iadd, fldv_8_28, fds_8_28, wi_iaload, B_X9_plan_173, no0, no1, nz1, nz2, nz3, nz4, nz5, nz7, nz8, Classical.not_not, bz0, bz1, wi_nil, ld_0, ld_s, isIv_I, isLv_L, isRv_R, true_and, and_true, lset_0, lset_1, lset_s, avw_I, avw_L, avw_R, clr_cons, clr_nil, kst_0, kst_1, kstL_0, kstL_1, addk_I, pA_0, pA_s, pD_0, pD_s, wid_nil, wid_cons, rcv_c, putv_I, putv_L, List.length_cons, List.length_nil, List.set_cons_zero, List.set_cons_succ, not_false_eq_true, Nat.reduceMod, Nat.reduceDiv, Nat.reduceEqDiff, Nat.reduceLT, Nat.reduceLeDiff, Nat.reduceAdd, Nat.reduceSub, reduceIte, Nat.lt_irrefl, Nat.zero_ne_one, Nat.one_ne_zero, Nat.zero_add, List.nil_append, List.cons_append, Option.toList_some, Option.toList_none, forall_const, false_implies, true_implies, false_or, or_false, true_or, or_true, i_le, i_lt, i_eq, i_eq0, i_lt0, i_0le, i_0lt, i_le0, i_in1, i_cl, nI_add, pk_mul, pk_sub, i_div, i_rem, i_sh1, i_bit, i_or, i_and, i_andn, nt_le, nf_le, nt_lt, nf_lt, nt_eq, nf_eq, not_true_eq_false, and_self, and_false, false_and, eq_self, Bool.toNat_true, Bool.toNat_false, i_bool, i_bool1, Bool.false_eq_true, Bool.true_eq_false, reduceCtorEq, i_neg1, i_neg2, i_neg3, i_neg4, i_neg5, i_neg6, i_neg7, i_neg8, i_neg9, i_nega, i_negb, i_negc, i_max2, i_min2])
          have h5 := l_prow (d := d) (P := PM (tI k)) (z := tI k) (S0 := sA S4 31 0 (upd (gA S4 31 0) r (nI n))) (D := dgs (2 ^ Y 6 0) n b) (n := n) (r := r) (by omega) hr6 g4 (fun g5 k1 k2 => ?_) n 0 (gA (sA S4 31 0 (upd (gA S4 31 0) r (nI n))) 32 0) (by omega) (fun i hi => absurd hi (Nat.not_lt_zero i)) (fun p hp => rfl)
          · rw [sA_self] at h5
            exact h5
          · refine pm ?_
            have f34 := f3.trans f4
            have fr2 : Fr (pN 1) S (sA (sA S4 31 0 (upd (gA S4 31 0) r (nI n))) 32 0 g5) := ((fr1.trans f34.pn).trans (fr_sA rfl)).trans (fr_sA rfl)
            refine rr_1 (rs := updN rs r (n + 1)) (rc := fun a p => if a = r then nI (dgs (2 ^ Y 6 0) n b p) else rc a p) h fr2 ⟨?_, ?_⟩
            · have e16 : gA S4 16 0 = g := f34.2.2 16 0 rfl
              have e15 : gA S4 15 0 = upd (gA S 15 0) r (nI n) := by
                rw [f34.2.2 15 0 rfl]
                show upd (gA S2 15 0) r (nI n) = _
                rw [fs2.2.2 15 0 rfl]
              refine tb_fill (v := fun p => nI (dgs (2 ^ Y 6 0) n b p)) h1.1 (by omega) e15 (fun p hp => ?_) (fun i hi => ?_)
              · show gA S4 16 0 p = _
                rw [e16, g2 p hp]
                show gA S2 16 0 p = _
                rw [fs2.2.2 16 0 rfl]
              · show gA S4 16 0 (40 * r + i) = _
                rw [e16]
                exact g1 i hi
            · have e31 : gA S4 31 0 = gA S 31 0 := by
                rw [f34.2.2 31 0 rfl]
                show gA S2 31 0 = _
                rw [fs2.2.2 31 0 rfl]
              have e32 : gA S4 32 0 = gA S 32 0 := by
                rw [f34.2.2 32 0 rfl]
                show gA S2 32 0 = _
                rw [fs2.2.2 32 0 rfl]
              refine tb_fill (v := fun p => nI (dgs (2 ^ Y 6 0) n b p)) h1.2 (by omega) ?_ (fun p hp => ?_) (fun i hi => ?_)
              · show upd (gA S4 31 0) r (nI n) = _
                rw [e31]
              · show g5 p = _
                rw [k2 p hp]
                show gA S4 32 0 p = _
                rw [e32]
              · exact k1 i hi
        · show fil (gA S2 16 0) (40 * r) (40 * r + n) (nI 0) p = gA S2 16 0 p
          unfold fil
          rw [if_neg (by omega)]
end
