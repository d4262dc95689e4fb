-- PART 18: Year's further methods
section
variable {d j B : Nat} {S : MS} {Y : Nat → Nat → Nat} {P : Option AV → MS → Prop}
theorem i_bool {b : Bool} : (nI b.toNat = 0) = (b = false) := by cases b <;> decide +kernel
theorem i_bool1 {b : Bool} : (nI b.toNat = nI 1) = (b = true) := by cases b <;> decide +kernel
theorem c_trait {i w : Nat} (hj : j < 5) (hy : YrX S j Y) (ho : YOk B Y) (hB : B < 1000) (hi : i < 5) (hin : i < Y 6 0) (hw : w < 8) (q : P (some (aI (nI (if w = 4 then yc Y i else if w = 5 then Y 4 i else if w = 6 then ((Y 6 4).testBit i).toNat else if w = 7 then Y 5 i else Y w i)))) S) : wpM (d + 4) mX7_trait [aR 6 j, aI (nI i), aI (nI w)] S P := by
  refine x_entry (ls2 := [aR 6 j, aI (nI i), aI (nI w)]) (Nat.le_of_ble_eq_true rfl) pl_7 rfl (Nat.le_of_ble_eq_true rfl) ?_
  refine s_X7_trait_0 ?_
  simp only [B_X7_trait_0, wi_iload_n, wi_tsw, no0, no1, nz1, nz2, nz3, nz4, nz5, nz7, nz8, Classical.not_not, bz0, bz1, wi_nil, ld_0, ld_s, isIv_I, isLv_L, isRv_R, true_and, and_true, lset_0, lset_1, lset_s, avw_I, avw_L, avw_R, clr_cons, clr_nil, kst_0, kst_1, kstL_0, kstL_1, addk_I, pA_0, pA_s, pD_0, pD_s, wid_nil, wid_cons, rcv_c, putv_I, putv_L, List.length_cons, List.length_nil, List.set_cons_zero, List.set_cons_succ, not_false_eq_true, Nat.reduceMod, Nat.reduceDiv, Nat.reduceEqDiff, Nat.reduceLT, Nat.reduceLeDiff, Nat.reduceAdd, Nat.reduceSub, reduceIte, Nat.lt_irrefl, Nat.zero_ne_one, Nat.one_ne_zero, Nat.zero_add, List.nil_append, List.cons_append, Option.toList_some, Option.toList_none, forall_const, false_implies, true_implies, false_or, or_false, true_or, or_true]
  rcases (show w = 0 ∨ w = 1 ∨ w = 2 ∨ w = 3 ∨ w = 4 ∨ w = 5 ∨ w = 6 ∨ w = 7 by omega) with rfl | rfl | rfl | rfl | rfl | rfl | rfl | rfl
  · rw [show swt 1 98 0 6 #[43, 50, 57, 64, 71, 77, 84] (nI 0) = 44 from by decide +kernel]
    refine s_X7_trait_44 ?_
    simp only [B_X7_trait_44, wi_aload_n, wi_getfield, fldv_6_0, fds_6_0, cnt_6, wi_iload_n, wi_iaload, wi_ireturn, cnt_20, aTy_20, aLn_20, arr_20, cnt_21, aTy_21, aLn_21, arr_21, cnt_22, aTy_22, aLn_22, arr_22, cnt_23, aTy_23, aLn_23, arr_23, cnt_24, aTy_24, aLn_24, arr_24, cnt_25, aTy_25, aLn_25, arr_25, no0, no1, nz1, nz2, nz3, nz4, nz5, nz7, nz8, Classical.not_not, bz0, bz1, wi_nil, ld_0, ld_s, isIv_I, isLv_L, isRv_R, true_and, and_true, lset_0, lset_1, lset_s, avw_I, avw_L, avw_R, clr_cons, clr_nil, kst_0, kst_1, kstL_0, kstL_1, addk_I, pA_0, pA_s, pD_0, pD_s, wid_nil, wid_cons, rcv_c, putv_I, putv_L, List.length_cons, List.length_nil, List.set_cons_zero, List.set_cons_succ, not_false_eq_true, Nat.reduceMod, Nat.reduceDiv, Nat.reduceEqDiff, Nat.reduceLT, Nat.reduceLeDiff, Nat.reduceAdd, Nat.reduceSub, reduceIte, Nat.lt_irrefl, Nat.zero_ne_one, Nat.one_ne_zero, Nat.zero_add, List.nil_append, List.cons_append, Option.toList_some, Option.toList_none, forall_const, false_implies, true_implies, false_or, or_false, true_or, or_true, hj]
    rw [i_cl (by omega), hy.1 0 (by decide) i hi]
    exact ⟨i_in hi (by decide), q⟩
  · rw [show swt 1 98 0 6 #[43, 50, 57, 64, 71, 77, 84] (nI 1) = 51 from by decide +kernel]
    refine s_X7_trait_51 ?_
    simp only [B_X7_trait_51, wi_aload_n, wi_getfield, fldv_6_1, fds_6_1, cnt_6, wi_iload_n, wi_iaload, wi_ireturn, cnt_20, aTy_20, aLn_20, arr_20, cnt_21, aTy_21, aLn_21, arr_21, cnt_22, aTy_22, aLn_22, arr_22, cnt_23, aTy_23, aLn_23, arr_23, cnt_24, aTy_24, aLn_24, arr_24, cnt_25, aTy_25, aLn_25, arr_25, no0, no1, nz1, nz2, nz3, nz4, nz5, nz7, nz8, Classical.not_not, bz0, bz1, wi_nil, ld_0, ld_s, isIv_I, isLv_L, isRv_R, true_and, and_true, lset_0, lset_1, lset_s, avw_I, avw_L, avw_R, clr_cons, clr_nil, kst_0, kst_1, kstL_0, kstL_1, addk_I, pA_0, pA_s, pD_0, pD_s, wid_nil, wid_cons, rcv_c, putv_I, putv_L, List.length_cons, List.length_nil, List.set_cons_zero, List.set_cons_succ, not_false_eq_true, Nat.reduceMod, Nat.reduceDiv, Nat.reduceEqDiff, Nat.reduceLT, Nat.reduceLeDiff, Nat.reduceAdd, Nat.reduceSub, reduceIte, Nat.lt_irrefl, Nat.zero_ne_one, Nat.one_ne_zero, Nat.zero_add, List.nil_append, List.cons_append, Option.toList_some, Option.toList_none, forall_const, false_implies, true_implies, false_or, or_false, true_or, or_true, hj]
    rw [i_cl (by omega), hy.1 1 (by decide) i hi]
    exact ⟨i_in hi (by decide), q⟩
  · rw [show swt 1 98 0 6 #[43, 50, 57, 64, 71, 77, 84] (nI 2) = 58 from by decide +kernel]
    refine s_X7_trait_58 ?_
    simp only [B_X7_trait_58, wi_aload_n, wi_getfield, fldv_6_2, fds_6_2, cnt_6, wi_iload_n, wi_iaload, wi_ireturn, cnt_20, aTy_20, aLn_20, arr_20, cnt_21, aTy_21, aLn_21, arr_21, cnt_22, aTy_22, aLn_22, arr_22, cnt_23, aTy_23, aLn_23, arr_23, cnt_24, aTy_24, aLn_24, arr_24, cnt_25, aTy_25, aLn_25, arr_25, no0, no1, nz1, nz2, nz3, nz4, nz5, nz7, nz8, Classical.not_not, bz0, bz1, wi_nil, ld_0, ld_s, isIv_I, isLv_L, isRv_R, true_and, and_true, lset_0, lset_1, lset_s, avw_I, avw_L, avw_R, clr_cons, clr_nil, kst_0, kst_1, kstL_0, kstL_1, addk_I, pA_0, pA_s, pD_0, pD_s, wid_nil, wid_cons, rcv_c, putv_I, putv_L, List.length_cons, List.length_nil, List.set_cons_zero, List.set_cons_succ, not_false_eq_true, Nat.reduceMod, Nat.reduceDiv, Nat.reduceEqDiff, Nat.reduceLT, Nat.reduceLeDiff, Nat.reduceAdd, Nat.reduceSub, reduceIte, Nat.lt_irrefl, Nat.zero_ne_one, Nat.one_ne_zero, Nat.zero_add, List.nil_append, List.cons_append, Option.toList_some, Option.toList_none, forall_const, false_implies, true_implies, false_or, or_false, true_or, or_true, hj]
    rw [i_cl (by omega), hy.1 2 (by decide) i hi]
    exact ⟨i_in hi (by decide), q⟩
  · rw [show swt 1 98 0 6 #[43, 50, 57, 64, 71, 77, 84] (nI 3) = 65 from by decide +kernel]
    refine s_X7_trait_65 ?_
    simp only [B_X7_trait_65, wi_aload_n, wi_getfield, fldv_6_3, fds_6_3, cnt_6, wi_iload_n, wi_iaload, wi_ireturn, cnt_20, aTy_20, aLn_20, arr_20, cnt_21, aTy_21, aLn_21, arr_21, cnt_22, aTy_22, aLn_22, arr_22, cnt_23, aTy_23, aLn_23, arr_23, cnt_24, aTy_24, aLn_24, arr_24, cnt_25, aTy_25, aLn_25, arr_25, no0, no1, nz1, nz2, nz3, nz4, nz5, nz7, nz8, Classical.not_not, bz0, bz1, wi_nil, ld_0, ld_s, isIv_I, isLv_L, isRv_R, true_and, and_true, lset_0, lset_1, lset_s, avw_I, avw_L, avw_R, clr_cons, clr_nil, kst_0, kst_1, kstL_0, kstL_1, addk_I, pA_0, pA_s, pD_0, pD_s, wid_nil, wid_cons, rcv_c, putv_I, putv_L, List.length_cons, List.length_nil, List.set_cons_zero, List.set_cons_succ, not_false_eq_true, Nat.reduceMod, Nat.reduceDiv, Nat.reduceEqDiff, Nat.reduceLT, Nat.reduceLeDiff, Nat.reduceAdd, Nat.reduceSub, reduceIte, Nat.lt_irrefl, Nat.zero_ne_one, Nat.one_ne_zero, Nat.zero_add, List.nil_append, List.cons_append, Option.toList_some, Option.toList_none, forall_const, false_implies, true_implies, false_or, or_false, true_or, or_true, hj]
    rw [i_cl (by omega), hy.1 3 (by decide) i hi]
    exact ⟨i_in hi (by decide), q⟩
  · rw [show swt 1 98 0 6 #[43, 50, 57, 64, 71, 77, 84] (nI 4) = 72 from by decide +kernel]
    refine s_X7_trait_72 ?_
    simp only [B_X7_trait_72, wi_aload_n, wi_iload_n, wi_invokevirtual, cnt_6, no0, no1, nz1, nz2, nz3, nz4, nz5, nz7, nz8, Classical.not_not, bz0, bz1, wi_nil, ld_0, ld_s, isIv_I, isLv_L, isRv_R, true_and, and_true, lset_0, lset_1, lset_s, avw_I, avw_L, avw_R, clr_cons, clr_nil, kst_0, kst_1, kstL_0, kstL_1, addk_I, pA_0, pA_s, pD_0, pD_s, wid_nil, wid_cons, rcv_c, putv_I, putv_L, List.length_cons, List.length_nil, List.set_cons_zero, List.set_cons_succ, not_false_eq_true, Nat.reduceMod, Nat.reduceDiv, Nat.reduceEqDiff, Nat.reduceLT, Nat.reduceLeDiff, Nat.reduceAdd, Nat.reduceSub, reduceIte, Nat.lt_irrefl, Nat.zero_ne_one, Nat.one_ne_zero, Nat.zero_add, List.nil_append, List.cons_append, Option.toList_some, Option.toList_none, forall_const, false_implies, true_implies, false_or, or_false, true_or, or_true, hj]
    refine c_yprice hj hy ho hB hi hin ?_
    refine s_X7_trait_77 ?_
    simp only [B_X7_trait_77, wi_ireturn, no0, no1, nz1, nz2, nz3, nz4, nz5, nz7, nz8, Classical.not_not, bz0, bz1, wi_nil, ld_0, ld_s, isIv_I, isLv_L, isRv_R, true_and, and_true, lset_0, lset_1, lset_s, avw_I, avw_L, avw_R, clr_cons, clr_nil, kst_0, kst_1, kstL_0, kstL_1, addk_I, pA_0, pA_s, pD_0, pD_s, wid_nil, wid_cons, rcv_c, putv_I, putv_L, List.length_cons, List.length_nil, List.set_cons_zero, List.set_cons_succ, not_false_eq_true, Nat.reduceMod, Nat.reduceDiv, Nat.reduceEqDiff, Nat.reduceLT, Nat.reduceLeDiff, Nat.reduceAdd, Nat.reduceSub, reduceIte, Nat.lt_irrefl, Nat.zero_ne_one, Nat.one_ne_zero, Nat.zero_add, List.nil_append, List.cons_append, Option.toList_some, Option.toList_none, forall_const, false_implies, true_implies, false_or, or_false, true_or, or_true]
    exact q
  · rw [show swt 1 98 0 6 #[43, 50, 57, 64, 71, 77, 84] (nI 5) = 78 from by decide +kernel]
    refine s_X7_trait_78 ?_
    simp only [B_X7_trait_78, wi_aload_n, wi_getfield, fldv_6_4, fds_6_4, cnt_6, wi_iload_n, wi_iaload, wi_ireturn, cnt_20, aTy_20, aLn_20, arr_20, cnt_21, aTy_21, aLn_21, arr_21, cnt_22, aTy_22, aLn_22, arr_22, cnt_23, aTy_23, aLn_23, arr_23, cnt_24, aTy_24, aLn_24, arr_24, cnt_25, aTy_25, aLn_25, arr_25, no0, no1, nz1, nz2, nz3, nz4, nz5, nz7, nz8, Classical.not_not, bz0, bz1, wi_nil, ld_0, ld_s, isIv_I, isLv_L, isRv_R, true_and, and_true, lset_0, lset_1, lset_s, avw_I, avw_L, avw_R, clr_cons, clr_nil, kst_0, kst_1, kstL_0, kstL_1, addk_I, pA_0, pA_s, pD_0, pD_s, wid_nil, wid_cons, rcv_c, putv_I, putv_L, List.length_cons, List.length_nil, List.set_cons_zero, List.set_cons_succ, not_false_eq_true, Nat.reduceMod, Nat.reduceDiv, Nat.reduceEqDiff, Nat.reduceLT, Nat.reduceLeDiff, Nat.reduceAdd, Nat.reduceSub, reduceIte, Nat.lt_irrefl, Nat.zero_ne_one, Nat.one_ne_zero, Nat.zero_add, List.nil_append, List.cons_append, Option.toList_some, Option.toList_none, forall_const, false_implies, true_implies, false_or, or_false, true_or, or_true, hj]
    rw [i_cl (by omega), hy.1 4 (by decide) i hi]
    exact ⟨i_in hi (by decide), q⟩
  · rw [show swt 1 98 0 6 #[43, 50, 57, 64, 71, 77, 84] (nI 6) = 85 from by decide +kernel]
    refine s_X7_trait_85 ?_
    simp only [B_X7_trait_85, wi_aload_n, wi_iload_n, wi_invokevirtual, cnt_6, no0, no1, nz1, nz2, nz3, nz4, nz5, nz7, nz8, Classical.not_not, bz0, bz1, wi_nil, ld_0, ld_s, isIv_I, isLv_L, isRv_R, true_and, and_true, lset_0, lset_1, lset_s, avw_I, avw_L, avw_R, clr_cons, clr_nil, kst_0, kst_1, kstL_0, kstL_1, addk_I, pA_0, pA_s, pD_0, pD_s, wid_nil, wid_cons, rcv_c, putv_I, putv_L, List.length_cons, List.length_nil, List.set_cons_zero, List.set_cons_succ, not_false_eq_true, Nat.reduceMod, Nat.reduceDiv, Nat.reduceEqDiff, Nat.reduceLT, Nat.reduceLeDiff, Nat.reduceAdd, Nat.reduceSub, reduceIte, Nat.lt_irrefl, Nat.zero_ne_one, Nat.one_ne_zero, Nat.zero_add, List.nil_append, List.cons_append, Option.toList_some, Option.toList_none, forall_const, false_implies, true_implies, false_or, or_false, true_or, or_true, hj]
    refine c_isGiven hj hy ho hi ?_
    refine s_X7_trait_90 ?_
    simp only [B_X7_trait_90, wi_if_eq, wi_iconst, wi_goto, no0, no1, nz1, nz2, nz3, nz4, nz5, nz7, nz8, Classical.not_not, bz0, bz1, wi_nil, ld_0, ld_s, isIv_I, isLv_L, isRv_R, true_and, and_true, lset_0, lset_1, lset_s, avw_I, avw_L, avw_R, clr_cons, clr_nil, kst_0, kst_1, kstL_0, kstL_1, addk_I, pA_0, pA_s, pD_0, pD_s, wid_nil, wid_cons, rcv_c, putv_I, putv_L, List.length_cons, List.length_nil, List.set_cons_zero, List.set_cons_succ, not_false_eq_true, Nat.reduceMod, Nat.reduceDiv, Nat.reduceEqDiff, Nat.reduceLT, Nat.reduceLeDiff, Nat.reduceAdd, Nat.reduceSub, reduceIte, Nat.lt_irrefl, Nat.zero_ne_one, Nat.one_ne_zero, Nat.zero_add, List.nil_append, List.cons_append, Option.toList_some, Option.toList_none, forall_const, false_implies, true_implies, false_or, or_false, true_or, or_true]
    rw [i_bool]
    refine ⟨fun h => ?_, fun h => ?_⟩
    · refine s_X7_trait_97 ?_
      simp only [B_X7_trait_97, wi_iconst, no0, no1, nz1, nz2, nz3, nz4, nz5, nz7, nz8, Classical.not_not, bz0, bz1, wi_nil, ld_0, ld_s, isIv_I, isLv_L, isRv_R, true_and, and_true, lset_0, lset_1, lset_s, avw_I, avw_L, avw_R, clr_cons, clr_nil, kst_0, kst_1, kstL_0, kstL_1, addk_I, pA_0, pA_s, pD_0, pD_s, wid_nil, wid_cons, rcv_c, putv_I, putv_L, List.length_cons, List.length_nil, List.set_cons_zero, List.set_cons_succ, not_false_eq_true, Nat.reduceMod, Nat.reduceDiv, Nat.reduceEqDiff, Nat.reduceLT, Nat.reduceLeDiff, Nat.reduceAdd, Nat.reduceSub, reduceIte, Nat.lt_irrefl, Nat.zero_ne_one, Nat.one_ne_zero, Nat.zero_add, List.nil_append, List.cons_append, Option.toList_some, Option.toList_none, forall_const, false_implies, true_implies, false_or, or_false, true_or, or_true]
      refine s_X7_trait_98 ?_
      simp only [B_X7_trait_98, wi_ireturn, no0, no1, nz1, nz2, nz3, nz4, nz5, nz7, nz8, Classical.not_not, bz0, bz1, wi_nil, ld_0, ld_s, isIv_I, isLv_L, isRv_R, true_and, and_true, lset_0, lset_1, lset_s, avw_I, avw_L, avw_R, clr_cons, clr_nil, kst_0, kst_1, kstL_0, kstL_1, addk_I, pA_0, pA_s, pD_0, pD_s, wid_nil, wid_cons, rcv_c, putv_I, putv_L, List.length_cons, List.length_nil, List.set_cons_zero, List.set_cons_succ, not_false_eq_true, Nat.reduceMod, Nat.reduceDiv, Nat.reduceEqDiff, Nat.reduceLT, Nat.reduceLeDiff, Nat.reduceAdd, Nat.reduceSub, reduceIte, Nat.lt_irrefl, Nat.zero_ne_one, Nat.one_ne_zero, Nat.zero_add, List.nil_append, List.cons_append, Option.toList_some, Option.toList_none, forall_const, false_implies, true_implies, false_or, or_false, true_or, or_true]
      simp only [h] at q
      exact q
    · refine s_X7_trait_98 ?_
      simp only [B_X7_trait_98, wi_ireturn, no0, no1, nz1, nz2, nz3, nz4, nz5, nz7, nz8, Classical.not_not, bz0, bz1, wi_nil, ld_0, ld_s, isIv_I, isLv_L, isRv_R, true_and, and_true, lset_0, lset_1, lset_s, avw_I, avw_L, avw_R, clr_cons, clr_nil, kst_0, kst_1, kstL_0, kstL_1, addk_I, pA_0, pA_s, pD_0, pD_s, wid_nil, wid_cons, rcv_c, putv_I, putv_L, List.length_cons, List.length_nil, List.set_cons_zero, List.set_cons_succ, not_false_eq_true, Nat.reduceMod, Nat.reduceDiv, Nat.reduceEqDiff, Nat.reduceLT, Nat.reduceLeDiff, Nat.reduceAdd, Nat.reduceSub, reduceIte, Nat.lt_irrefl, Nat.zero_ne_one, Nat.one_ne_zero, Nat.zero_add, List.nil_append, List.cons_append, Option.toList_some, Option.toList_none, forall_const, false_implies, true_implies, false_or, or_false, true_or, or_true]
      have h2 : (Y 6 4).testBit i = true := by simpa using h
      simp only [h2] at q
      exact q
  · rw [show swt 1 98 0 6 #[43, 50, 57, 64, 71, 77, 84] (nI 7) = 99 from by decide +kernel]
    refine s_X7_trait_99 ?_
    simp only [B_X7_trait_99, wi_aload_n, wi_getfield, fldv_6_5, fds_6_5, cnt_6, wi_iload_n, wi_iaload, wi_ireturn, cnt_20, aTy_20, aLn_20, arr_20, cnt_21, aTy_21, aLn_21, arr_21, cnt_22, aTy_22, aLn_22, arr_22, cnt_23, aTy_23, aLn_23, arr_23, cnt_24, aTy_24, aLn_24, arr_24, cnt_25, aTy_25, aLn_25, arr_25, no0, no1, nz1, nz2, nz3, nz4, nz5, nz7, nz8, Classical.not_not, bz0, bz1, wi_nil, ld_0, ld_s, isIv_I, isLv_L, isRv_R, true_and, and_true, lset_0, lset_1, lset_s, avw_I, avw_L, avw_R, clr_cons, clr_nil, kst_0, kst_1, kstL_0, kstL_1, addk_I, pA_0, pA_s, pD_0, pD_s, wid_nil, wid_cons, rcv_c, putv_I, putv_L, List.length_cons, List.length_nil, List.set_cons_zero, List.set_cons_succ, not_false_eq_true, Nat.reduceMod, Nat.reduceDiv, Nat.reduceEqDiff, Nat.reduceLT, Nat.reduceLeDiff, Nat.reduceAdd, Nat.reduceSub, reduceIte, Nat.lt_irrefl, Nat.zero_ne_one, Nat.one_ne_zero, Nat.zero_add, List.nil_append, List.cons_append, Option.toList_some, Option.toList_none, forall_const, false_implies, true_implies, false_or, or_false, true_or, or_true, hj]
    rw [i_cl (by omega), hy.1 5 (by decide) i hi]
    exact ⟨i_in hi (by decide), q⟩
theorem sm_le9 {Y : Nat → Nat → Nat} {f : Nat → Nat} {n : Nat} (hn : n ≤ 5) (hf : ∀ i, i < n → f i ≤ 9) {i : Nat} (hi : i ≤ n) : fb_sm f i ≤ 45 := by
  have := fb_sm_bound (f := f) (c := 9) (n := i) (fun k hk => hf k (by omega))
  omega
theorem l_openHabits (hj : j < 5) (hy : YrX S j Y) (ho : YOk B Y) (q : P (some (aI (nI (yhab Y)))) S) : ∀ (n i : Nat), i + n = Y 6 0 → wpX (d + 1) mX7_openHabits 4 [aR 6 j, aI (nI (fb_sm (fun i => if (Y 6 4).testBit i then 0 else Y 2 i) i)), aI (nI i)] [] S P := by
  have hn5 := ho.1.1
  have hf : ∀ i, i < Y 6 0 → (if (Y 6 4).testBit i then 0 else Y 2 i) ≤ 9 := fun i hi => by have := ho.2 i hi; split <;> omega
  intro n
  induction n with
  | zero =>
    intro i hi
    refine s_X7_openHabits_4 ?_
    simp only [B_X7_openHabits_4, wi_iload_n, wi_aload_n, wi_getfield, fldv_6_7, fds_6_7, cnt_6, wi_icmp_ge, wi_invokevirtual, no0, no1, nz1, nz2, nz3, nz4, nz5, nz7, nz8, Classical.not_not, bz0, bz1, wi_nil, ld_0, ld_s, isIv_I, isLv_L, isRv_R, true_and, and_true, lset_0, lset_1, lset_s, avw_I, avw_L, avw_R, clr_cons, clr_nil, kst_0, kst_1, kstL_0, kstL_1, addk_I, pA_0, pA_s, pD_0, pD_s, wid_nil, wid_cons, rcv_c, putv_I, putv_L, List.length_cons, List.length_nil, List.set_cons_zero, List.set_cons_succ, not_false_eq_true, Nat.reduceMod, Nat.reduceDiv, Nat.reduceEqDiff, Nat.reduceLT, Nat.reduceLeDiff, Nat.reduceAdd, Nat.reduceSub, reduceIte, Nat.lt_irrefl, Nat.zero_ne_one, Nat.one_ne_zero, Nat.zero_add, List.nil_append, List.cons_append, Option.toList_some, Option.toList_none, forall_const, false_implies, true_implies, false_or, or_false, true_or, or_true, hj]
    have e0 := hy.2 0 (by decide)
    rw [e0, i_le (by omega) (by omega)]
    refine ⟨fun _ => ?_, fun h => absurd (by omega) h⟩
    refine s_X7_openHabits_39 ?_
    simp only [B_X7_openHabits_39, wi_iload_n, wi_ireturn, no0, no1, nz1, nz2, nz3, nz4, nz5, nz7, nz8, Classical.not_not, bz0, bz1, wi_nil, ld_0, ld_s, isIv_I, isLv_L, isRv_R, true_and, and_true, lset_0, lset_1, lset_s, avw_I, avw_L, avw_R, clr_cons, clr_nil, kst_0, kst_1, kstL_0, kstL_1, addk_I, pA_0, pA_s, pD_0, pD_s, wid_nil, wid_cons, rcv_c, putv_I, putv_L, List.length_cons, List.length_nil, List.set_cons_zero, List.set_cons_succ, not_false_eq_true, Nat.reduceMod, Nat.reduceDiv, Nat.reduceEqDiff, Nat.reduceLT, Nat.reduceLeDiff, Nat.reduceAdd, Nat.reduceSub, reduceIte, Nat.lt_irrefl, Nat.zero_ne_one, Nat.one_ne_zero, Nat.zero_add, List.nil_append, List.cons_append, Option.toList_some, Option.toList_none, forall_const, false_implies, true_implies, false_or, or_false, true_or, or_true]
    rw [show i = Y 6 0 by omega]
    exact q
  | succ n ih =>
    intro i hi
    have hs := sm_le9 (Y := Y) hn5 hf (show i ≤ Y 6 0 by omega)
    refine s_X7_openHabits_4 ?_
    simp only [B_X7_openHabits_4, wi_iload_n, wi_aload_n, wi_getfield, fldv_6_7, fds_6_7, cnt_6, wi_icmp_ge, wi_invokevirtual, no0, no1, nz1, nz2, nz3, nz4, nz5, nz7, nz8, Classical.not_not, bz0, bz1, wi_nil, ld_0, ld_s, isIv_I, isLv_L, isRv_R, true_and, and_true, lset_0, lset_1, lset_s, avw_I, avw_L, avw_R, clr_cons, clr_nil, kst_0, kst_1, kstL_0, kstL_1, addk_I, pA_0, pA_s, pD_0, pD_s, wid_nil, wid_cons, rcv_c, putv_I, putv_L, List.length_cons, List.length_nil, List.set_cons_zero, List.set_cons_succ, not_false_eq_true, Nat.reduceMod, Nat.reduceDiv, Nat.reduceEqDiff, Nat.reduceLT, Nat.reduceLeDiff, Nat.reduceAdd, Nat.reduceSub, reduceIte, Nat.lt_irrefl, Nat.zero_ne_one, Nat.one_ne_zero, Nat.zero_add, List.nil_append, List.cons_append, Option.toList_some, Option.toList_none, forall_const, false_implies, true_implies, false_or, or_false, true_or, or_true, hj]
    have e0 := hy.2 0 (by decide)
    rw [e0, i_le (by omega) (by omega)]
    refine ⟨fun h => absurd h (by omega), fun _ => ?_⟩
    refine c_isGiven hj hy ho (by omega) ?_
    refine s_X7_openHabits_18 ?_
    simp only [B_X7_openHabits_18, wi_if_eq, wi_iconst, wi_goto, no0, no1, nz1, nz2, nz3, nz4, nz5, nz7, nz8, Classical.not_not, bz0, bz1, wi_nil, ld_0, ld_s, isIv_I, isLv_L, isRv_R, true_and, and_true, lset_0, lset_1, lset_s, avw_I, avw_L, avw_R, clr_cons, clr_nil, kst_0, kst_1, kstL_0, kstL_1, addk_I, pA_0, pA_s, pD_0, pD_s, wid_nil, wid_cons, rcv_c, putv_I, putv_L, List.length_cons, List.length_nil, List.set_cons_zero, List.set_cons_succ, not_false_eq_true, Nat.reduceMod, Nat.reduceDiv, Nat.reduceEqDiff, Nat.reduceLT, Nat.reduceLeDiff, Nat.reduceAdd, Nat.reduceSub, reduceIte, Nat.lt_irrefl, Nat.zero_ne_one, Nat.one_ne_zero, Nat.zero_add, List.nil_append, List.cons_append, Option.toList_some, Option.toList_none, forall_const, false_implies, true_implies, false_or, or_false, true_or, or_true]
    rw [i_bool]
    have last : ∀ v, v = (if (Y 6 4).testBit i then 0 else Y 2 i) → wpX (d + 1) mX7_openHabits 31 [aR 6 j, aU, aI (nI i)] [aI (nI v), aI (nI (fb_sm (fun i => if (Y 6 4).testBit i then 0 else Y 2 i) i))] S P := by
      intro v hv
      refine s_X7_openHabits_31 ?_
      simp only [B_X7_openHabits_31, wi_iadd, wi_istore_n, wi_iinc, wi_goto, no0, no1, nz1, nz2, nz3, nz4, nz5, nz7, nz8, Classical.not_not, bz0, bz1, wi_nil, ld_0, ld_s, isIv_I, isLv_L, isRv_R, true_and, and_true, lset_0, lset_1, lset_s, avw_I, avw_L, avw_R, clr_cons, clr_nil, kst_0, kst_1, kstL_0, kstL_1, addk_I, pA_0, pA_s, pD_0, pD_s, wid_nil, wid_cons, rcv_c, putv_I, putv_L, List.length_cons, List.length_nil, List.set_cons_zero, List.set_cons_succ, not_false_eq_true, Nat.reduceMod, Nat.reduceDiv, Nat.reduceEqDiff, Nat.reduceLT, Nat.reduceLeDiff, Nat.reduceAdd, Nat.reduceSub, reduceIte, Nat.lt_irrefl, Nat.zero_ne_one, Nat.one_ne_zero, Nat.zero_add, List.nil_append, List.cons_append, Option.toList_some, Option.toList_none, forall_const, false_implies, true_implies, false_or, or_false, true_or, or_true]
      rw [nI_add, nI_add, hv]
      exact ih (i + 1) (by omega)
    refine ⟨fun h => ?_, fun h => last 0 ?_⟩
    · refine s_X7_openHabits_25 ?_
      simp only [B_X7_openHabits_25, wi_aload_n, wi_getfield, fldv_6_2, fds_6_2, cnt_6, wi_iload_n, wi_iaload, cnt_22, aTy_22, aLn_22, arr_22, no0, no1, nz1, nz2, nz3, nz4, nz5, nz7, nz8, Classical.not_not, bz0, bz1, wi_nil, ld_0, ld_s, isIv_I, isLv_L, isRv_R, true_and, and_true, lset_0, lset_1, lset_s, avw_I, avw_L, avw_R, clr_cons, clr_nil, kst_0, kst_1, kstL_0, kstL_1, addk_I, pA_0, pA_s, pD_0, pD_s, wid_nil, wid_cons, rcv_c, putv_I, putv_L, List.length_cons, List.length_nil, List.set_cons_zero, List.set_cons_succ, not_false_eq_true, Nat.reduceMod, Nat.reduceDiv, Nat.reduceEqDiff, Nat.reduceLT, Nat.reduceLeDiff, Nat.reduceAdd, Nat.reduceSub, reduceIte, Nat.lt_irrefl, Nat.zero_ne_one, Nat.one_ne_zero, Nat.zero_add, List.nil_append, List.cons_append, Option.toList_some, Option.toList_none, forall_const, false_implies, true_implies, false_or, or_false, true_or, or_true, hj]
      rw [i_cl (by omega), hy.1 2 (by decide) i (by omega)]
      refine ⟨i_in (by omega) (by decide), last _ ?_⟩
      rw [h]; rfl
    · have h2 : (Y 6 4).testBit i = true := by simpa using h
      rw [h2]; rfl
theorem c_openHabits (hj : j < 5) (hy : YrX S j Y) (ho : YOk B Y) (q : P (some (aI (nI (yhab Y)))) S) : wpM (d + 2) mX7_openHabits [aR 6 j] S P := by
  refine x_entry (ls2 := [aR 6 j, aU, aU]) (Nat.le_of_ble_eq_true rfl) pl_7 rfl (Nat.le_of_ble_eq_true rfl) ?_
  refine s_X7_openHabits_0 ?_
  simp only [B_X7_openHabits_0, wi_iconst, wi_istore_n, no0, no1, nz1, nz2, nz3, nz4, nz5, nz7, nz8, Classical.not_not, bz0, bz1, wi_nil, ld_0, ld_s, isIv_I, isLv_L, isRv_R, true_and, and_true, lset_0, lset_1, lset_s, avw_I, avw_L, avw_R, clr_cons, clr_nil, kst_0, kst_1, kstL_0, kstL_1, addk_I, pA_0, pA_s, pD_0, pD_s, wid_nil, wid_cons, rcv_c, putv_I, putv_L, List.length_cons, List.length_nil, List.set_cons_zero, List.set_cons_succ, not_false_eq_true, Nat.reduceMod, Nat.reduceDiv, Nat.reduceEqDiff, Nat.reduceLT, Nat.reduceLeDiff, Nat.reduceAdd, Nat.reduceSub, reduceIte, Nat.lt_irrefl, Nat.zero_ne_one, Nat.one_ne_zero, Nat.zero_add, List.nil_append, List.cons_append, Option.toList_some, Option.toList_none, forall_const, false_implies, true_implies, false_or, or_false, true_or, or_true]
  exact l_openHabits hj hy ho q (Y 6 0) 0 (by omega)
theorem l_runs (hj : j < 5) (hy : YrX S j Y) (ho : YOk B Y) (q : P (some (aI (nI (yruns Y)))) S) : ∀ (n i : Nat), i + n = Y 6 0 → wpX (d + 1) mX7_runs 4 [aR 6 j, aI (nI (fb_sm (fun i => (isk (Y 0 i) 1).toNat) i)), aI (nI i)] [] S P := by
  have hn5 := ho.1.1
  have hf : ∀ i, i < Y 6 0 → (isk (Y 0 i) 1).toNat ≤ 9 := fun i hi => by cases isk (Y 0 i) 1 <;> decide
  intro n
  induction n with
  | zero =>
    intro i hi
    refine s_X7_runs_4 ?_
    simp only [B_X7_runs_4, wi_iload_n, wi_aload_n, wi_getfield, fldv_6_7, fds_6_7, cnt_6, wi_icmp_ge, fldv_6_0, fds_6_0, wi_iaload, wi_iconst, wi_invokestatic, cnt_20, aTy_20, aLn_20, arr_20, no0, no1, nz1, nz2, nz3, nz4, nz5, nz7, nz8, Classical.not_not, bz0, bz1, wi_nil, ld_0, ld_s, isIv_I, isLv_L, isRv_R, true_and, and_true, lset_0, lset_1, lset_s, avw_I, avw_L, avw_R, clr_cons, clr_nil, kst_0, kst_1, kstL_0, kstL_1, addk_I, pA_0, pA_s, pD_0, pD_s, wid_nil, wid_cons, rcv_c, putv_I, putv_L, List.length_cons, List.length_nil, List.set_cons_zero, List.set_cons_succ, not_false_eq_true, Nat.reduceMod, Nat.reduceDiv, Nat.reduceEqDiff, Nat.reduceLT, Nat.reduceLeDiff, Nat.reduceAdd, Nat.reduceSub, reduceIte, Nat.lt_irrefl, Nat.zero_ne_one, Nat.one_ne_zero, Nat.zero_add, List.nil_append, List.cons_append, Option.toList_some, Option.toList_none, forall_const, false_implies, true_implies, false_or, or_false, true_or, or_true, hj]
    have e0 := hy.2 0 (by decide)
    rw [e0, i_le (by omega) (by omega)]
    refine ⟨fun _ => ?_, fun h => absurd (by omega) h⟩
    refine s_X7_runs_39 ?_
    simp only [B_X7_runs_39, wi_iload_n, wi_ireturn, no0, no1, nz1, nz2, nz3, nz4, nz5, nz7, nz8, Classical.not_not, bz0, bz1, wi_nil, ld_0, ld_s, isIv_I, isLv_L, isRv_R, true_and, and_true, lset_0, lset_1, lset_s, avw_I, avw_L, avw_R, clr_cons, clr_nil, kst_0, kst_1, kstL_0, kstL_1, addk_I, pA_0, pA_s, pD_0, pD_s, wid_nil, wid_cons, rcv_c, putv_I, putv_L, List.length_cons, List.length_nil, List.set_cons_zero, List.set_cons_succ, not_false_eq_true, Nat.reduceMod, Nat.reduceDiv, Nat.reduceEqDiff, Nat.reduceLT, Nat.reduceLeDiff, Nat.reduceAdd, Nat.reduceSub, reduceIte, Nat.lt_irrefl, Nat.zero_ne_one, Nat.one_ne_zero, Nat.zero_add, List.nil_append, List.cons_append, Option.toList_some, Option.toList_none, forall_const, false_implies, true_implies, false_or, or_false, true_or, or_true]
    rw [show i = Y 6 0 by omega]
    exact q
  | succ n ih =>
    intro i hi
    have hs := sm_le9 (Y := Y) hn5 hf (show i ≤ Y 6 0 by omega)
    refine s_X7_runs_4 ?_
    simp only [B_X7_runs_4, wi_iload_n, wi_aload_n, wi_getfield, fldv_6_7, fds_6_7, cnt_6, wi_icmp_ge, fldv_6_0, fds_6_0, wi_iaload, wi_iconst, wi_invokestatic, cnt_20, aTy_20, aLn_20, arr_20, no0, no1, nz1, nz2, nz3, nz4, nz5, nz7, nz8, Classical.not_not, bz0, bz1, wi_nil, ld_0, ld_s, isIv_I, isLv_L, isRv_R, true_and, and_true, lset_0, lset_1, lset_s, avw_I, avw_L, avw_R, clr_cons, clr_nil, kst_0, kst_1, kstL_0, kstL_1, addk_I, pA_0, pA_s, pD_0, pD_s, wid_nil, wid_cons, rcv_c, putv_I, putv_L, List.length_cons, List.length_nil, List.set_cons_zero, List.set_cons_succ, not_false_eq_true, Nat.reduceMod, Nat.reduceDiv, Nat.reduceEqDiff, Nat.reduceLT, Nat.reduceLeDiff, Nat.reduceAdd, Nat.reduceSub, reduceIte, Nat.lt_irrefl, Nat.zero_ne_one, Nat.one_ne_zero, Nat.zero_add, List.nil_append, List.cons_append, Option.toList_some, Option.toList_none, forall_const, false_implies, true_implies, false_or, or_false, true_or, or_true, hj]
    have e0 := hy.2 0 (by decide)
    rw [e0, i_le (by omega) (by omega), i_cl (by omega), hy.1 0 (by decide) i (by omega)]
    refine ⟨fun h => absurd h (by omega), fun _ => ⟨i_in (by omega) (by decide), ?_⟩⟩
    refine c_isOf (ho.2 i (by omega)).1 (by decide) ?_
    refine s_X7_runs_23 ?_
    simp only [B_X7_runs_23, wi_if_eq, wi_iconst, wi_goto, no0, no1, nz1, nz2, nz3, nz4, nz5, nz7, nz8, Classical.not_not, bz0, bz1, wi_nil, ld_0, ld_s, isIv_I, isLv_L, isRv_R, true_and, and_true, lset_0, lset_1, lset_s, avw_I, avw_L, avw_R, clr_cons, clr_nil, kst_0, kst_1, kstL_0, kstL_1, addk_I, pA_0, pA_s, pD_0, pD_s, wid_nil, wid_cons, rcv_c, putv_I, putv_L, List.length_cons, List.length_nil, List.set_cons_zero, List.set_cons_succ, not_false_eq_true, Nat.reduceMod, Nat.reduceDiv, Nat.reduceEqDiff, Nat.reduceLT, Nat.reduceLeDiff, Nat.reduceAdd, Nat.reduceSub, reduceIte, Nat.lt_irrefl, Nat.zero_ne_one, Nat.one_ne_zero, Nat.zero_add, List.nil_append, List.cons_append, Option.toList_some, Option.toList_none, forall_const, false_implies, true_implies, false_or, or_false, true_or, or_true]
    rw [i_bool]
    have last : ∀ v, v = (isk (Y 0 i) 1).toNat → wpX (d + 1) mX7_runs 31 [aR 6 j, aU, aI (nI i)] [aI (nI v), aI (nI (fb_sm (fun i => (isk (Y 0 i) 1).toNat) i))] S P := by
      intro v hv
      refine s_X7_runs_31 ?_
      simp only [B_X7_runs_31, wi_iadd, wi_istore_n, wi_iinc, wi_goto, no0, no1, nz1, nz2, nz3, nz4, nz5, nz7, nz8, Classical.not_not, bz0, bz1, wi_nil, ld_0, ld_s, isIv_I, isLv_L, isRv_R, true_and, and_true, lset_0, lset_1, lset_s, avw_I, avw_L, avw_R, clr_cons, clr_nil, kst_0, kst_1, kstL_0, kstL_1, addk_I, pA_0, pA_s, pD_0, pD_s, wid_nil, wid_cons, rcv_c, putv_I, putv_L, List.length_cons, List.length_nil, List.set_cons_zero, List.set_cons_succ, not_false_eq_true, Nat.reduceMod, Nat.reduceDiv, Nat.reduceEqDiff, Nat.reduceLT, Nat.reduceLeDiff, Nat.reduceAdd, Nat.reduceSub, reduceIte, Nat.lt_irrefl, Nat.zero_ne_one, Nat.one_ne_zero, Nat.zero_add, List.nil_append, List.cons_append, Option.toList_some, Option.toList_none, forall_const, false_implies, true_implies, false_or, or_false, true_or, or_true]
      rw [nI_add, nI_add, hv]
      exact ih (i + 1) (by omega)
    refine ⟨fun h => ?_, fun h => last 1 ?_⟩
    · refine s_X7_runs_30 ?_
      simp only [B_X7_runs_30, wi_iconst, no0, no1, nz1, nz2, nz3, nz4, nz5, nz7, nz8, Classical.not_not, bz0, bz1, wi_nil, ld_0, ld_s, isIv_I, isLv_L, isRv_R, true_and, and_true, lset_0, lset_1, lset_s, avw_I, avw_L, avw_R, clr_cons, clr_nil, kst_0, kst_1, kstL_0, kstL_1, addk_I, pA_0, pA_s, pD_0, pD_s, wid_nil, wid_cons, rcv_c, putv_I, putv_L, List.length_cons, List.length_nil, List.set_cons_zero, List.set_cons_succ, not_false_eq_true, Nat.reduceMod, Nat.reduceDiv, Nat.reduceEqDiff, Nat.reduceLT, Nat.reduceLeDiff, Nat.reduceAdd, Nat.reduceSub, reduceIte, Nat.lt_irrefl, Nat.zero_ne_one, Nat.one_ne_zero, Nat.zero_add, List.nil_append, List.cons_append, Option.toList_some, Option.toList_none, forall_const, false_implies, true_implies, false_or, or_false, true_or, or_true]
      refine last 0 ?_
      rw [h]; rfl
    · have h2 : isk (Y 0 i) 1 = true := by simpa using h
      rw [h2]; rfl
theorem c_runs (hj : j < 5) (hy : YrX S j Y) (ho : YOk B Y) (q : P (some (aI (nI (yruns Y)))) S) : wpM (d + 2) mX7_runs [aR 6 j] S P := by
  refine x_entry (ls2 := [aR 6 j, aU, aU]) (Nat.le_of_ble_eq_true rfl) pl_7 rfl (Nat.le_of_ble_eq_true rfl) ?_
  refine s_X7_runs_0 ?_
  simp only [B_X7_runs_0, wi_iconst, wi_istore_n, no0, no1, nz1, nz2, nz3, nz4, nz5, nz7, nz8, Classical.not_not, bz0, bz1, wi_nil, ld_0, ld_s, isIv_I, isLv_L, isRv_R, true_and, and_true, lset_0, lset_1, lset_s, avw_I, avw_L, avw_R, clr_cons, clr_nil, kst_0, kst_1, kstL_0, kstL_1, addk_I, pA_0, pA_s, pD_0, pD_s, wid_nil, wid_cons, rcv_c, putv_I, putv_L, List.length_cons, List.length_nil, List.set_cons_zero, List.set_cons_succ, not_false_eq_true, Nat.reduceMod, Nat.reduceDiv, Nat.reduceEqDiff, Nat.reduceLT, Nat.reduceLeDiff, Nat.reduceAdd, Nat.reduceSub, reduceIte, Nat.lt_irrefl, Nat.zero_ne_one, Nat.one_ne_zero, Nat.zero_add, List.nil_append, List.cons_append, Option.toList_some, Option.toList_none, forall_const, false_implies, true_implies, false_or, or_false, true_or, or_true]
  exact l_runs hj hy ho q (Y 6 0) 0 (by omega)
theorem l_lossOf {s : Nat} (hj : j < 5) (hy : YrX S j Y) (ho : YOk B Y) (hs : s < 32) (q : P (some (aI (nI (ylos Y s)))) S) : ∀ (n i : Nat), i + n = Y 6 0 → wpX (d + 1) mX7_lossOf 4 [aR 6 j, aI (nI s), aI (nI (fb_sm (fun i => if s.testBit i then Y 2 i - shr (Y 0 i) (Y 2 i) else 0) i)), aI (nI i)] [] S P := by
  have hn5 := ho.1.1
  have hf : ∀ i, i < Y 6 0 → (if s.testBit i then Y 2 i - shr (Y 0 i) (Y 2 i) else 0) ≤ 9 := fun i hi => by have := ho.2 i hi; split <;> omega
  intro n
  induction n with
  | zero =>
    intro i hi
    refine s_X7_lossOf_4 ?_
    simp only [B_X7_lossOf_4, wi_iload_n, wi_aload_n, wi_getfield, fldv_6_7, fds_6_7, cnt_6, wi_icmp_ge, wi_ishr, wi_iconst, wi_iand, wi_icmp_ne, fldv_6_2, fds_6_2, wi_iaload, fldv_6_0, fds_6_0, wi_invokestatic, cnt_20, aTy_20, aLn_20, arr_20, cnt_22, aTy_22, aLn_22, arr_22, no0, no1, nz1, nz2, nz3, nz4, nz5, nz7, nz8, Classical.not_not, bz0, bz1, wi_nil, ld_0, ld_s, isIv_I, isLv_L, isRv_R, true_and, and_true, lset_0, lset_1, lset_s, avw_I, avw_L, avw_R, clr_cons, clr_nil, kst_0, kst_1, kstL_0, kstL_1, addk_I, pA_0, pA_s, pD_0, pD_s, wid_nil, wid_cons, rcv_c, putv_I, putv_L, List.length_cons, List.length_nil, List.set_cons_zero, List.set_cons_succ, not_false_eq_true, Nat.reduceMod, Nat.reduceDiv, Nat.reduceEqDiff, Nat.reduceLT, Nat.reduceLeDiff, Nat.reduceAdd, Nat.reduceSub, reduceIte, Nat.lt_irrefl, Nat.zero_ne_one, Nat.one_ne_zero, Nat.zero_add, List.nil_append, List.cons_append, Option.toList_some, Option.toList_none, forall_const, false_implies, true_implies, false_or, or_false, true_or, or_true, hj]
    have e0 := hy.2 0 (by decide)
    rw [e0, i_le (by omega) (by omega)]
    refine ⟨fun _ => ?_, fun h => absurd (by omega) h⟩
    refine s_X7_lossOf_52 ?_
    simp only [B_X7_lossOf_52, wi_iload_n, wi_ireturn, no0, no1, nz1, nz2, nz3, nz4, nz5, nz7, nz8, Classical.not_not, bz0, bz1, wi_nil, ld_0, ld_s, isIv_I, isLv_L, isRv_R, true_and, and_true, lset_0, lset_1, lset_s, avw_I, avw_L, avw_R, clr_cons, clr_nil, kst_0, kst_1, kstL_0, kstL_1, addk_I, pA_0, pA_s, pD_0, pD_s, wid_nil, wid_cons, rcv_c, putv_I, putv_L, List.length_cons, List.length_nil, List.set_cons_zero, List.set_cons_succ, not_false_eq_true, Nat.reduceMod, Nat.reduceDiv, Nat.reduceEqDiff, Nat.reduceLT, Nat.reduceLeDiff, Nat.reduceAdd, Nat.reduceSub, reduceIte, Nat.lt_irrefl, Nat.zero_ne_one, Nat.one_ne_zero, Nat.zero_add, List.nil_append, List.cons_append, Option.toList_some, Option.toList_none, forall_const, false_implies, true_implies, false_or, or_false, true_or, or_true]
    rw [show i = Y 6 0 by omega]
    exact q
  | succ n ih =>
    intro i hi
    have hsm := sm_le9 (Y := Y) hn5 hf (show i ≤ Y 6 0 by omega)
    have hb := ho.2 i (by omega)
    refine s_X7_lossOf_4 ?_
    simp only [B_X7_lossOf_4, wi_iload_n, wi_aload_n, wi_getfield, fldv_6_7, fds_6_7, cnt_6, wi_icmp_ge, wi_ishr, wi_iconst, wi_iand, wi_icmp_ne, fldv_6_2, fds_6_2, wi_iaload, fldv_6_0, fds_6_0, wi_invokestatic, cnt_20, aTy_20, aLn_20, arr_20, cnt_22, aTy_22, aLn_22, arr_22, no0, no1, nz1, nz2, nz3, nz4, nz5, nz7, nz8, Classical.not_not, bz0, bz1, wi_nil, ld_0, ld_s, isIv_I, isLv_L, isRv_R, true_and, and_true, lset_0, lset_1, lset_s, avw_I, avw_L, avw_R, clr_cons, clr_nil, kst_0, kst_1, kstL_0, kstL_1, addk_I, pA_0, pA_s, pD_0, pD_s, wid_nil, wid_cons, rcv_c, putv_I, putv_L, List.length_cons, List.length_nil, List.set_cons_zero, List.set_cons_succ, not_false_eq_true, Nat.reduceMod, Nat.reduceDiv, Nat.reduceEqDiff, Nat.reduceLT, Nat.reduceLeDiff, Nat.reduceAdd, Nat.reduceSub, reduceIte, Nat.lt_irrefl, Nat.zero_ne_one, Nat.one_ne_zero, Nat.zero_add, List.nil_append, List.cons_append, Option.toList_some, Option.toList_none, forall_const, false_implies, true_implies, false_or, or_false, true_or, or_true, hj]
    have e0 := hy.2 0 (by decide)
    rw [e0, i_le (by omega) (by omega), i_bit (by omega) (by omega), i_bool1, i_cl (by omega), hy.1 2 (by decide) i (by omega), hy.1 0 (by decide) i (by omega)]
    have next : ∀ v, v = (if s.testBit i then Y 2 i - shr (Y 0 i) (Y 2 i) else 0) → wpX (d + 1) mX7_lossOf 46 [aR 6 j, aI (nI s), aI (nI (fb_sm (fun i => if s.testBit i then Y 2 i - shr (Y 0 i) (Y 2 i) else 0) i + v)), aI (nI i)] [] S P := by
      intro v hv
      refine s_X7_lossOf_46 ?_
      simp only [B_X7_lossOf_46, wi_iinc, wi_goto, no0, no1, nz1, nz2, nz3, nz4, nz5, nz7, nz8, Classical.not_not, bz0, bz1, wi_nil, ld_0, ld_s, isIv_I, isLv_L, isRv_R, true_and, and_true, lset_0, lset_1, lset_s, avw_I, avw_L, avw_R, clr_cons, clr_nil, kst_0, kst_1, kstL_0, kstL_1, addk_I, pA_0, pA_s, pD_0, pD_s, wid_nil, wid_cons, rcv_c, putv_I, putv_L, List.length_cons, List.length_nil, List.set_cons_zero, List.set_cons_succ, not_false_eq_true, Nat.reduceMod, Nat.reduceDiv, Nat.reduceEqDiff, Nat.reduceLT, Nat.reduceLeDiff, Nat.reduceAdd, Nat.reduceSub, reduceIte, Nat.lt_irrefl, Nat.zero_ne_one, Nat.one_ne_zero, Nat.zero_add, List.nil_append, List.cons_append, Option.toList_some, Option.toList_none, forall_const, false_implies, true_implies, false_or, or_false, true_or, or_true]
      rw [nI_add, hv]
      exact ih (i + 1) (by omega)
    refine ⟨fun h => absurd h (by omega), fun _ => ⟨fun h => ?_, fun h => ⟨i_in (by omega) (by decide), i_in (by omega) (by decide), i_in (by omega) (by decide), ?_⟩⟩⟩
    · have := next 0 (by rw [if_neg h])
      exact this
    · refine c_shrunk (by omega) (by omega) ?_
      refine s_X7_lossOf_43 ?_
      simp only [B_X7_lossOf_43, wi_isub, wi_iadd, wi_istore_n, no0, no1, nz1, nz2, nz3, nz4, nz5, nz7, nz8, Classical.not_not, bz0, bz1, wi_nil, ld_0, ld_s, isIv_I, isLv_L, isRv_R, true_and, and_true, lset_0, lset_1, lset_s, avw_I, avw_L, avw_R, clr_cons, clr_nil, kst_0, kst_1, kstL_0, kstL_1, addk_I, pA_0, pA_s, pD_0, pD_s, wid_nil, wid_cons, rcv_c, putv_I, putv_L, List.length_cons, List.length_nil, List.set_cons_zero, List.set_cons_succ, not_false_eq_true, Nat.reduceMod, Nat.reduceDiv, Nat.reduceEqDiff, Nat.reduceLT, Nat.reduceLeDiff, Nat.reduceAdd, Nat.reduceSub, reduceIte, Nat.lt_irrefl, Nat.zero_ne_one, Nat.one_ne_zero, Nat.zero_add, List.nil_append, List.cons_append, Option.toList_some, Option.toList_none, forall_const, false_implies, true_implies, false_or, or_false, true_or, or_true]
      rw [pk_sub shr_le, nI_add]
      exact next _ (by rw [if_pos h])
theorem c_lossOf {s : Nat} (hj : j < 5) (hy : YrX S j Y) (ho : YOk B Y) (hs : s < 32) (q : P (some (aI (nI (ylos Y s)))) S) : wpM (d + 2) mX7_lossOf [aR 6 j, aI (nI s)] S P := by
  refine x_entry (ls2 := [aR 6 j, aI (nI s), aU, aU]) (Nat.le_of_ble_eq_true rfl) pl_7 rfl (Nat.le_of_ble_eq_true rfl) ?_
  refine s_X7_lossOf_0 ?_
  simp only [B_X7_lossOf_0, wi_iconst, wi_istore_n, no0, no1, nz1, nz2, nz3, nz4, nz5, nz7, nz8, Classical.not_not, bz0, bz1, wi_nil, ld_0, ld_s, isIv_I, isLv_L, isRv_R, true_and, and_true, lset_0, lset_1, lset_s, avw_I, avw_L, avw_R, clr_cons, clr_nil, kst_0, kst_1, kstL_0, kstL_1, addk_I, pA_0, pA_s, pD_0, pD_s, wid_nil, wid_cons, rcv_c, putv_I, putv_L, List.length_cons, List.length_nil, List.set_cons_zero, List.set_cons_succ, not_false_eq_true, Nat.reduceMod, Nat.reduceDiv, Nat.reduceEqDiff, Nat.reduceLT, Nat.reduceLeDiff, Nat.reduceAdd, Nat.reduceSub, reduceIte, Nat.lt_irrefl, Nat.zero_ne_one, Nat.one_ne_zero, Nat.zero_add, List.nil_append, List.cons_append, Option.toList_some, Option.toList_none, forall_const, false_implies, true_implies, false_or, or_false, true_or, or_true]
  exact l_lossOf hj hy ho hs q (Y 6 0) 0 (by omega)
theorem l_done (hj : j < 5) (hy : YrX S j Y) (ho : YOk B Y) (q1 : Done Y → P (some (aI (nI 1))) S) (q0 : ¬ Done Y → P (some (aI (nI 0))) S) : ∀ (n i : Nat), i + n = Y 6 0 → (∀ k, k < i → (Y 6 4).testBit k = true ∨ Y 1 k ≤ Y 2 k) → wpX (d + 1) mX7_goesByItself 2 [aR 6 j, aI (nI i)] [] S P := by
  have hn5 := ho.1.1
  intro n
  induction n with
  | zero =>
    intro i hi hk
    refine s_X7_goesByItself_2 ?_
    simp only [B_X7_goesByItself_2, wi_iload_n, wi_aload_n, wi_getfield, fldv_6_7, fds_6_7, cnt_6, wi_icmp_ge, wi_invokevirtual, no0, no1, nz1, nz2, nz3, nz4, nz5, nz7, nz8, Classical.not_not, bz0, bz1, wi_nil, ld_0, ld_s, isIv_I, isLv_L, isRv_R, true_and, and_true, lset_0, lset_1, lset_s, avw_I, avw_L, avw_R, clr_cons, clr_nil, kst_0, kst_1, kstL_0, kstL_1, addk_I, pA_0, pA_s, pD_0, pD_s, wid_nil, wid_cons, rcv_c, putv_I, putv_L, List.length_cons, List.length_nil, List.set_cons_zero, List.set_cons_succ, not_false_eq_true, Nat.reduceMod, Nat.reduceDiv, Nat.reduceEqDiff, Nat.reduceLT, Nat.reduceLeDiff, Nat.reduceAdd, Nat.reduceSub, reduceIte, Nat.lt_irrefl, Nat.zero_ne_one, Nat.one_ne_zero, Nat.zero_add, List.nil_append, List.cons_append, Option.toList_some, Option.toList_none, forall_const, false_implies, true_implies, false_or, or_false, true_or, or_true, hj]
    have e0 := hy.2 0 (by decide)
    rw [e0, i_le (by omega) (by omega)]
    refine ⟨fun _ => ?_, fun h => absurd (by omega) h⟩
    refine s_X7_goesByItself_41 ?_
    simp only [B_X7_goesByItself_41, wi_iconst, wi_ireturn, no0, no1, nz1, nz2, nz3, nz4, nz5, nz7, nz8, Classical.not_not, bz0, bz1, wi_nil, ld_0, ld_s, isIv_I, isLv_L, isRv_R, true_and, and_true, lset_0, lset_1, lset_s, avw_I, avw_L, avw_R, clr_cons, clr_nil, kst_0, kst_1, kstL_0, kstL_1, addk_I, pA_0, pA_s, pD_0, pD_s, wid_nil, wid_cons, rcv_c, putv_I, putv_L, List.length_cons, List.length_nil, List.set_cons_zero, List.set_cons_succ, not_false_eq_true, Nat.reduceMod, Nat.reduceDiv, Nat.reduceEqDiff, Nat.reduceLT, Nat.reduceLeDiff, Nat.reduceAdd, Nat.reduceSub, reduceIte, Nat.lt_irrefl, Nat.zero_ne_one, Nat.one_ne_zero, Nat.zero_add, List.nil_append, List.cons_append, Option.toList_some, Option.toList_none, forall_const, false_implies, true_implies, false_or, or_false, true_or, or_true]
    exact q1 (fun k h => hk k (by omega))
  | succ n ih =>
    intro i hi hk
    have hb := ho.2 i (by omega)
    refine s_X7_goesByItself_2 ?_
    simp only [B_X7_goesByItself_2, wi_iload_n, wi_aload_n, wi_getfield, fldv_6_7, fds_6_7, cnt_6, wi_icmp_ge, wi_invokevirtual, no0, no1, nz1, nz2, nz3, nz4, nz5, nz7, nz8, Classical.not_not, bz0, bz1, wi_nil, ld_0, ld_s, isIv_I, isLv_L, isRv_R, true_and, and_true, lset_0, lset_1, lset_s, avw_I, avw_L, avw_R, clr_cons, clr_nil, kst_0, kst_1, kstL_0, kstL_1, addk_I, pA_0, pA_s, pD_0, pD_s, wid_nil, wid_cons, rcv_c, putv_I, putv_L, List.length_cons, List.length_nil, List.set_cons_zero, List.set_cons_succ, not_false_eq_true, Nat.reduceMod, Nat.reduceDiv, Nat.reduceEqDiff, Nat.reduceLT, Nat.reduceLeDiff, Nat.reduceAdd, Nat.reduceSub, reduceIte, Nat.lt_irrefl, Nat.zero_ne_one, Nat.one_ne_zero, Nat.zero_add, List.nil_append, List.cons_append, Option.toList_some, Option.toList_none, forall_const, false_implies, true_implies, false_or, or_false, true_or, or_true, hj]
    have e0 := hy.2 0 (by decide)
    rw [e0, i_le (by omega) (by omega)]
    refine ⟨fun h => absurd h (by omega), fun _ => ?_⟩
    refine c_isGiven hj hy ho (by omega) ?_
    refine s_X7_goesByItself_15 ?_
    simp only [B_X7_goesByItself_15, wi_if_ne, wi_aload_n, wi_getfield, fldv_6_2, fds_6_2, cnt_6, wi_iload_n, wi_iaload, fldv_6_1, fds_6_1, wi_icmp_ge, wi_iconst, wi_ireturn, cnt_21, aTy_21, aLn_21, arr_21, cnt_22, aTy_22, aLn_22, arr_22, no0, no1, nz1, nz2, nz3, nz4, nz5, nz7, nz8, Classical.not_not, bz0, bz1, wi_nil, ld_0, ld_s, isIv_I, isLv_L, isRv_R, true_and, and_true, lset_0, lset_1, lset_s, avw_I, avw_L, avw_R, clr_cons, clr_nil, kst_0, kst_1, kstL_0, kstL_1, addk_I, pA_0, pA_s, pD_0, pD_s, wid_nil, wid_cons, rcv_c, putv_I, putv_L, List.length_cons, List.length_nil, List.set_cons_zero, List.set_cons_succ, not_false_eq_true, Nat.reduceMod, Nat.reduceDiv, Nat.reduceEqDiff, Nat.reduceLT, Nat.reduceLeDiff, Nat.reduceAdd, Nat.reduceSub, reduceIte, Nat.lt_irrefl, Nat.zero_ne_one, Nat.one_ne_zero, Nat.zero_add, List.nil_append, List.cons_append, Option.toList_some, Option.toList_none, forall_const, false_implies, true_implies, false_or, or_false, true_or, or_true, hj]
    rw [i_bool, i_cl (by omega), hy.1 2 (by decide) i (by omega), hy.1 1 (by decide) i (by omega), i_le (by omega) (by omega)]
    have next : ((Y 6 4).testBit i = true ∨ Y 1 i ≤ Y 2 i) → wpX (d + 1) mX7_goesByItself 35 [aR 6 j, aI (nI i)] [] S P := by
      intro h
      refine s_X7_goesByItself_35 ?_
      simp only [B_X7_goesByItself_35, wi_iinc, wi_goto, no0, no1, nz1, nz2, nz3, nz4, nz5, nz7, nz8, Classical.not_not, bz0, bz1, wi_nil, ld_0, ld_s, isIv_I, isLv_L, isRv_R, true_and, and_true, lset_0, lset_1, lset_s, avw_I, avw_L, avw_R, clr_cons, clr_nil, kst_0, kst_1, kstL_0, kstL_1, addk_I, pA_0, pA_s, pD_0, pD_s, wid_nil, wid_cons, rcv_c, putv_I, putv_L, List.length_cons, List.length_nil, List.set_cons_zero, List.set_cons_succ, not_false_eq_true, Nat.reduceMod, Nat.reduceDiv, Nat.reduceEqDiff, Nat.reduceLT, Nat.reduceLeDiff, Nat.reduceAdd, Nat.reduceSub, reduceIte, Nat.lt_irrefl, Nat.zero_ne_one, Nat.one_ne_zero, Nat.zero_add, List.nil_append, List.cons_append, Option.toList_some, Option.toList_none, forall_const, false_implies, true_implies, false_or, or_false, true_or, or_true]
      rw [nI_add]
      refine ih (i + 1) (by omega) (fun k hk2 => ?_)
      rcases Nat.lt_or_ge k i with a | a
      · exact hk k a
      · rw [show k = i by omega]; exact h
    refine ⟨fun h => next (Or.inl (by simpa using h)), fun h => ⟨i_in (by omega) (by decide), i_in (by omega) (by decide), fun h2 => next (Or.inr h2), fun h2 => q0 (fun hd => ?_)⟩⟩
    rcases hd i (by omega) with a | a
    · rw [h] at a; cases a
    · exact h2 a
theorem c_done (hj : j < 5) (hy : YrX S j Y) (ho : YOk B Y) (q1 : Done Y → P (some (aI (nI 1))) S) (q0 : ¬ Done Y → P (some (aI (nI 0))) S) : wpM (d + 2) mX7_goesByItself [aR 6 j] S P := by
  refine x_entry (ls2 := [aR 6 j, aU]) (Nat.le_of_ble_eq_true rfl) pl_7 rfl (Nat.le_of_ble_eq_true rfl) ?_
  refine s_X7_goesByItself_0 ?_
  simp only [B_X7_goesByItself_0, wi_iconst, wi_istore_n, no0, no1, nz1, nz2, nz3, nz4, nz5, nz7, nz8, Classical.not_not, bz0, bz1, wi_nil, ld_0, ld_s, isIv_I, isLv_L, isRv_R, true_and, and_true, lset_0, lset_1, lset_s, avw_I, avw_L, avw_R, clr_cons, clr_nil, kst_0, kst_1, kstL_0, kstL_1, addk_I, pA_0, pA_s, pD_0, pD_s, wid_nil, wid_cons, rcv_c, putv_I, putv_L, List.length_cons, List.length_nil, List.set_cons_zero, List.set_cons_succ, not_false_eq_true, Nat.reduceMod, Nat.reduceDiv, Nat.reduceEqDiff, Nat.reduceLT, Nat.reduceLeDiff, Nat.reduceAdd, Nat.reduceSub, reduceIte, Nat.lt_irrefl, Nat.zero_ne_one, Nat.one_ne_zero, Nat.zero_add, List.nil_append, List.cons_append, Option.toList_some, Option.toList_none, forall_const, false_implies, true_implies, false_or, or_false, true_or, or_true]
  exact l_done hj hy ho q1 q0 (Y 6 0) 0 (by omega) (fun k h => absurd h (Nat.not_lt_zero k))
-- the rules
def rk32 (Y : Nat → Nat → Nat) (r i : Nat) : Int32 := if r = 0 then nI (yc Y i) else if r = 1 then nI i else if r = 2 then -nI (Y 4 i) else nI (Y 2 i)
theorem neg_toInt {a : Nat} (h : a < 2 ^ 30) : (-nI a).toInt = -(a : Int) := by
  have e : -nI a = nI 0 - nI a := by rw [nI_0]; exact (Int32.zero_sub _).symm
  rw [e, pk_sub_toInt (by decide) h]
  omega
theorem rk_toInt (ho : YOk B Y) (hB : B < 1000) {r i : Nat} (hi : i < Y 6 0) : (rk32 Y r i).toInt = rkY Y r i := by
  have hn5 := ho.1.1
  have hb := ho.2 i (by omega)
  have hc := yc_le ho hi
  unfold rk32 rkY
  split
  · exact nI_toInt (by omega)
  · split
    · exact nI_toInt (by omega)
    · split
      · exact neg_toInt (by omega)
      · exact nI_toInt (by omega)
theorem rk_lt (ho : YOk B Y) (hB : B < 1000) {r i k : Nat} (hi : i < Y 6 0) (hk : k < Y 6 0) : (rk32 Y r i < rk32 Y r k) = (rkY Y r i < rkY Y r k) := by
  rw [Int32.lt_iff_toInt_lt, rk_toInt ho hB hi, rk_toInt ho hB hk]
theorem rk_ge (ho : YOk B Y) (hB : B < 1000) {r i k : Nat} (hi : i < Y 6 0) (hk : k < Y 6 0) : (rk32 Y r k ≤ rk32 Y r i) = ¬ (rkY Y r i < rkY Y r k) := by
  rw [Int32.le_iff_toInt_le, rk_toInt ho hB hi, rk_toInt ho hB hk]
  exact propext Int.not_lt.symm
theorem c_rank {r i : Nat} (hj : j < 5) (hy : YrX S j Y) (hr : r < 4) (hi : i < 5) (hin : i < Y 6 0) (hw : ∀ s, s < 32 → gA S 26 j s = nI (csum (ycz Y) 5 s)) (q : P (some (aI (rk32 Y r i))) S) : wpM (d + 1) mX7_rank [aR 6 j, aI (nI r), aI (nI i), aR 26 j] S P := by
  have h2 : 2 ^ i < 32 := Nat.pow_lt_pow_right (a := 2) (by decide) hi
  refine x_entry (ls2 := [aR 6 j, aI (nI r), aI (nI i), aR 26 j]) (Nat.le_of_ble_eq_true rfl) pl_7 rfl (Nat.le_of_ble_eq_true rfl) ?_
  refine s_X7_rank_0 ?_
  simp only [B_X7_rank_0, wi_iload_n, wi_tsw, no0, no1, nz1, nz2, nz3, nz4, nz5, nz7, nz8, Classical.not_not, bz0, bz1, wi_nil, ld_0, ld_s, isIv_I, isLv_L, isRv_R, true_and, and_true, lset_0, lset_1, lset_s, avw_I, avw_L, avw_R, clr_cons, clr_nil, kst_0, kst_1, kstL_0, kstL_1, addk_I, pA_0, pA_s, pD_0, pD_s, wid_nil, wid_cons, rcv_c, putv_I, putv_L, List.length_cons, List.length_nil, List.set_cons_zero, List.set_cons_succ, not_false_eq_true, Nat.reduceMod, Nat.reduceDiv, Nat.reduceEqDiff, Nat.reduceLT, Nat.reduceLeDiff, Nat.reduceAdd, Nat.reduceSub, reduceIte, Nat.lt_irrefl, Nat.zero_ne_one, Nat.one_ne_zero, Nat.zero_add, List.nil_append, List.cons_append, Option.toList_some, Option.toList_none, forall_const, false_implies, true_implies, false_or, or_false, true_or, or_true]
  rcases (show r = 0 ∨ r = 1 ∨ r = 2 ∨ r = 3 by omega) with rfl | rfl | rfl | rfl
  · rw [show swt 1 43 0 2 #[27, 33, 35] (nI 0) = 28 from by decide +kernel]
    refine s_X7_rank_28 ?_
    simp only [B_X7_rank_28, wi_aload_n, wi_iconst, wi_iload_n, wi_ishl, wi_iaload, wi_ireturn, cnt_22, aTy_22, aLn_22, arr_22, cnt_24, aTy_24, aLn_24, arr_24, cnt_26, aTy_26, aLn_26, arr_26, no0, no1, nz1, nz2, nz3, nz4, nz5, nz7, nz8, Classical.not_not, bz0, bz1, wi_nil, ld_0, ld_s, isIv_I, isLv_L, isRv_R, true_and, and_true, lset_0, lset_1, lset_s, avw_I, avw_L, avw_R, clr_cons, clr_nil, kst_0, kst_1, kstL_0, kstL_1, addk_I, pA_0, pA_s, pD_0, pD_s, wid_nil, wid_cons, rcv_c, putv_I, putv_L, List.length_cons, List.length_nil, List.set_cons_zero, List.set_cons_succ, not_false_eq_true, Nat.reduceMod, Nat.reduceDiv, Nat.reduceEqDiff, Nat.reduceLT, Nat.reduceLeDiff, Nat.reduceAdd, Nat.reduceSub, reduceIte, Nat.lt_irrefl, Nat.zero_ne_one, Nat.one_ne_zero, Nat.zero_add, List.nil_append, List.cons_append, Option.toList_some, Option.toList_none, forall_const, false_implies, true_implies, false_or, or_false, true_or, or_true, hj]
    rw [i_sh1 (by omega), i_cl (by omega), hw _ h2]
    refine ⟨i_in h2 (by decide), ?_⟩
    have e : csum (ycz Y) 5 (2 ^ i) = yc Y i := by
      have := csum_add (f := ycz Y) (i := i) (s := 0) (m := 5) (Nat.two_pow_pos i) hi
      rw [Nat.add_zero] at this
      rw [this, csum_high 5 0 0 (by decide) (by decide)]
      show 0 + ycz Y i = yc Y i
      unfold ycz
      rw [if_pos hin, Nat.zero_add]
    rw [e]
    exact q
  · rw [show swt 1 43 0 2 #[27, 33, 35] (nI 1) = 34 from by decide +kernel]
    refine s_X7_rank_34 ?_
    simp only [B_X7_rank_34, wi_iload_n, wi_ireturn, no0, no1, nz1, nz2, nz3, nz4, nz5, nz7, nz8, Classical.not_not, bz0, bz1, wi_nil, ld_0, ld_s, isIv_I, isLv_L, isRv_R, true_and, and_true, lset_0, lset_1, lset_s, avw_I, avw_L, avw_R, clr_cons, clr_nil, kst_0, kst_1, kstL_0, kstL_1, addk_I, pA_0, pA_s, pD_0, pD_s, wid_nil, wid_cons, rcv_c, putv_I, putv_L, List.length_cons, List.length_nil, List.set_cons_zero, List.set_cons_succ, not_false_eq_true, Nat.reduceMod, Nat.reduceDiv, Nat.reduceEqDiff, Nat.reduceLT, Nat.reduceLeDiff, Nat.reduceAdd, Nat.reduceSub, reduceIte, Nat.lt_irrefl, Nat.zero_ne_one, Nat.one_ne_zero, Nat.zero_add, List.nil_append, List.cons_append, Option.toList_some, Option.toList_none, forall_const, false_implies, true_implies, false_or, or_false, true_or, or_true]
    exact q
  · rw [show swt 1 43 0 2 #[27, 33, 35] (nI 2) = 36 from by decide +kernel]
    refine s_X7_rank_36 ?_
    simp only [B_X7_rank_36, wi_aload_n, wi_getfield, fldv_6_4, fds_6_4, cnt_6, wi_iload_n, wi_iaload, wi_ineg, wi_ireturn, cnt_22, aTy_22, aLn_22, arr_22, cnt_24, aTy_24, aLn_24, arr_24, no0, no1, nz1, nz2, nz3, nz4, nz5, nz7, nz8, Classical.not_not, bz0, bz1, wi_nil, ld_0, ld_s, isIv_I, isLv_L, isRv_R, true_and, and_true, lset_0, lset_1, lset_s, avw_I, avw_L, avw_R, clr_cons, clr_nil, kst_0, kst_1, kstL_0, kstL_1, addk_I, pA_0, pA_s, pD_0, pD_s, wid_nil, wid_cons, rcv_c, putv_I, putv_L, List.length_cons, List.length_nil, List.set_cons_zero, List.set_cons_succ, not_false_eq_true, Nat.reduceMod, Nat.reduceDiv, Nat.reduceEqDiff, Nat.reduceLT, Nat.reduceLeDiff, Nat.reduceAdd, Nat.reduceSub, reduceIte, Nat.lt_irrefl, Nat.zero_ne_one, Nat.one_ne_zero, Nat.zero_add, List.nil_append, List.cons_append, Option.toList_some, Option.toList_none, forall_const, false_implies, true_implies, false_or, or_false, true_or, or_true, hj]
    rw [i_cl (by omega), hy.1 4 (by decide) i hi]
    exact ⟨i_in hi (by decide), q⟩
  · rw [show swt 1 43 0 2 #[27, 33, 35] (nI 3) = 44 from by decide +kernel]
    refine s_X7_rank_44 ?_
    simp only [B_X7_rank_44, wi_aload_n, wi_getfield, fldv_6_2, fds_6_2, cnt_6, wi_iload_n, wi_iaload, wi_ireturn, cnt_22, aTy_22, aLn_22, arr_22, cnt_24, aTy_24, aLn_24, arr_24, no0, no1, nz1, nz2, nz3, nz4, nz5, nz7, nz8, Classical.not_not, bz0, bz1, wi_nil, ld_0, ld_s, isIv_I, isLv_L, isRv_R, true_and, and_true, lset_0, lset_1, lset_s, avw_I, avw_L, avw_R, clr_cons, clr_nil, kst_0, kst_1, kstL_0, kstL_1, addk_I, pA_0, pA_s, pD_0, pD_s, wid_nil, wid_cons, rcv_c, putv_I, putv_L, List.length_cons, List.length_nil, List.set_cons_zero, List.set_cons_succ, not_false_eq_true, Nat.reduceMod, Nat.reduceDiv, Nat.reduceEqDiff, Nat.reduceLT, Nat.reduceLeDiff, Nat.reduceAdd, Nat.reduceSub, reduceIte, Nat.lt_irrefl, Nat.zero_ne_one, Nat.one_ne_zero, Nat.zero_add, List.nil_append, List.cons_append, Option.toList_some, Option.toList_none, forall_const, false_implies, true_implies, false_or, or_false, true_or, or_true, hj]
    rw [i_cl (by omega), hy.1 2 (by decide) i hi]
    exact ⟨i_in hi (by decide), q⟩
def fmB (Y : Nat → Nat → Nat) (r w i : Nat) : Nat := match scn (rkY Y r) w i with
  | none => 0
  | some b => 2 ^ b
def fmL (Y : Nat → Nat → Nat) (r w i : Nat) : Int32 := match scn (rkY Y r) w i with
  | none => nI 0
  | some b => rk32 Y r b
theorem and_bit {w i : Nat} (hw : w < 32) (hi : i < 5) : (nI w &&& nI (2 ^ i) = 0) = (w.testBit i = false) := fin2 (p := fun w i => (nI w &&& nI (2 ^ i) = 0) = (w.testBit i = false)) (n := 32) (m := 5) (by decide +kernel) hw hi
theorem l_foremost {r w : Nat} (hj : j < 5) (hy : YrX S j Y) (ho : YOk B Y) (hB : B < 1000) (hr : r < 4) (hw32 : w < 32) (hw : ∀ s, s < 32 → gA S 26 j s = nI (csum (ycz Y) 5 s)) (q : P (some (aI (nI (fmB Y r w (Y 6 0))))) S) : ∀ (n i : Nat), i + n = Y 6 0 → wpX (d + 1) mX7_foremost 9 [aR 6 j, aI (nI r), aI (nI w), aR 26 j, aI (nI (fmB Y r w i)), aI (fmL Y r w i), aI (nI i), aU, aU] [] S P := by
  have hn5 := ho.1.1
  intro n
  induction n with
  | zero =>
    intro i hi
    refine s_X7_foremost_9 ?_
    simp only [B_X7_foremost_9, wi_iload, wi_aload_n, wi_getfield, fldv_6_7, fds_6_7, cnt_6, wi_icmp_ge, wi_iconst, wi_ishl, wi_istore, wi_iload_n, wi_invokevirtual, no0, no1, nz1, nz2, nz3, nz4, nz5, nz7, nz8, Classical.not_not, bz0, bz1, wi_nil, ld_0, ld_s, isIv_I, isLv_L, isRv_R, true_and, and_true, lset_0, lset_1, lset_s, avw_I, avw_L, avw_R, clr_cons, clr_nil, kst_0, kst_1, kstL_0, kstL_1, addk_I, pA_0, pA_s, pD_0, pD_s, wid_nil, wid_cons, rcv_c, putv_I, putv_L, List.length_cons, List.length_nil, List.set_cons_zero, List.set_cons_succ, not_false_eq_true, Nat.reduceMod, Nat.reduceDiv, Nat.reduceEqDiff, Nat.reduceLT, Nat.reduceLeDiff, Nat.reduceAdd, Nat.reduceSub, reduceIte, Nat.lt_irrefl, Nat.zero_ne_one, Nat.one_ne_zero, Nat.zero_add, List.nil_append, List.cons_append, Option.toList_some, Option.toList_none, forall_const, false_implies, true_implies, false_or, or_false, true_or, or_true, hj]
    have e0 := hy.2 0 (by decide)
    rw [e0, i_le (by omega) (by omega)]
    refine ⟨fun _ => ?_, fun h => absurd (by omega) h⟩
    refine s_X7_foremost_67 ?_
    simp only [B_X7_foremost_67, wi_iload, wi_ireturn, no0, no1, nz1, nz2, nz3, nz4, nz5, nz7, nz8, Classical.not_not, bz0, bz1, wi_nil, ld_0, ld_s, isIv_I, isLv_L, isRv_R, true_and, and_true, lset_0, lset_1, lset_s, avw_I, avw_L, avw_R, clr_cons, clr_nil, kst_0, kst_1, kstL_0, kstL_1, addk_I, pA_0, pA_s, pD_0, pD_s, wid_nil, wid_cons, rcv_c, putv_I, putv_L, List.length_cons, List.length_nil, List.set_cons_zero, List.set_cons_succ, not_false_eq_true, Nat.reduceMod, Nat.reduceDiv, Nat.reduceEqDiff, Nat.reduceLT, Nat.reduceLeDiff, Nat.reduceAdd, Nat.reduceSub, reduceIte, Nat.lt_irrefl, Nat.zero_ne_one, Nat.one_ne_zero, Nat.zero_add, List.nil_append, List.cons_append, Option.toList_some, Option.toList_none, forall_const, false_implies, true_implies, false_or, or_false, true_or, or_true]
    rw [show i = Y 6 0 by omega]
    exact q
  | succ n ih =>
    intro i hi
    have hi5 : i < 5 := by omega
    refine s_X7_foremost_9 ?_
    simp only [B_X7_foremost_9, wi_iload, wi_aload_n, wi_getfield, fldv_6_7, fds_6_7, cnt_6, wi_icmp_ge, wi_iconst, wi_ishl, wi_istore, wi_iload_n, wi_invokevirtual, no0, no1, nz1, nz2, nz3, nz4, nz5, nz7, nz8, Classical.not_not, bz0, bz1, wi_nil, ld_0, ld_s, isIv_I, isLv_L, isRv_R, true_and, and_true, lset_0, lset_1, lset_s, avw_I, avw_L, avw_R, clr_cons, clr_nil, kst_0, kst_1, kstL_0, kstL_1, addk_I, pA_0, pA_s, pD_0, pD_s, wid_nil, wid_cons, rcv_c, putv_I, putv_L, List.length_cons, List.length_nil, List.set_cons_zero, List.set_cons_succ, not_false_eq_true, Nat.reduceMod, Nat.reduceDiv, Nat.reduceEqDiff, Nat.reduceLT, Nat.reduceLeDiff, Nat.reduceAdd, Nat.reduceSub, reduceIte, Nat.lt_irrefl, Nat.zero_ne_one, Nat.one_ne_zero, Nat.zero_add, List.nil_append, List.cons_append, Option.toList_some, Option.toList_none, forall_const, false_implies, true_implies, false_or, or_false, true_or, or_true, hj]
    have e0 := hy.2 0 (by decide)
    rw [e0, i_le (by omega) (by omega), i_sh1 (by omega)]
    refine ⟨fun h => absurd h (by omega), fun _ => ?_⟩
    refine c_rank hj hy hr hi5 (by omega) hw ?_
    refine s_X7_foremost_32 ?_
    simp only [B_X7_foremost_32, wi_istore, wi_iload_n, wi_iload, wi_iand, wi_if_eq, wi_icmp_ge, no0, no1, nz1, nz2, nz3, nz4, nz5, nz7, nz8, Classical.not_not, bz0, bz1, wi_nil, ld_0, ld_s, isIv_I, isLv_L, isRv_R, true_and, and_true, lset_0, lset_1, lset_s, avw_I, avw_L, avw_R, clr_cons, clr_nil, kst_0, kst_1, kstL_0, kstL_1, addk_I, pA_0, pA_s, pD_0, pD_s, wid_nil, wid_cons, rcv_c, putv_I, putv_L, List.length_cons, List.length_nil, List.set_cons_zero, List.set_cons_succ, not_false_eq_true, Nat.reduceMod, Nat.reduceDiv, Nat.reduceEqDiff, Nat.reduceLT, Nat.reduceLeDiff, Nat.reduceAdd, Nat.reduceSub, reduceIte, Nat.lt_irrefl, Nat.zero_ne_one, Nat.one_ne_zero, Nat.zero_add, List.nil_append, List.cons_append, Option.toList_some, Option.toList_none, forall_const, false_implies, true_implies, false_or, or_false, true_or, or_true]
    rw [and_bit hw32 hi5]
    have up : ∀ B2 L2, B2 = fmB Y r w (i + 1) → L2 = fmL Y r w (i + 1) → wpX (d + 1) mX7_foremost 61 [aR 6 j, aI (nI r), aI (nI w), aR 26 j, aI (nI B2), aI L2, aI (nI i), aU, aU] [] S P := by
      intro B2 L2 h1 h2
      refine s_X7_foremost_61 ?_
      simp only [B_X7_foremost_61, wi_iinc, wi_goto, no0, no1, nz1, nz2, nz3, nz4, nz5, nz7, nz8, Classical.not_not, bz0, bz1, wi_nil, ld_0, ld_s, isIv_I, isLv_L, isRv_R, true_and, and_true, lset_0, lset_1, lset_s, avw_I, avw_L, avw_R, clr_cons, clr_nil, kst_0, kst_1, kstL_0, kstL_1, addk_I, pA_0, pA_s, pD_0, pD_s, wid_nil, wid_cons, rcv_c, putv_I, putv_L, List.length_cons, List.length_nil, List.set_cons_zero, List.set_cons_succ, not_false_eq_true, Nat.reduceMod, Nat.reduceDiv, Nat.reduceEqDiff, Nat.reduceLT, Nat.reduceLeDiff, Nat.reduceAdd, Nat.reduceSub, reduceIte, Nat.lt_irrefl, Nat.zero_ne_one, Nat.one_ne_zero, Nat.zero_add, List.nil_append, List.cons_append, Option.toList_some, Option.toList_none, forall_const, false_implies, true_implies, false_or, or_false, true_or, or_true]
      rw [nI_add, h1, h2]
      exact ih (i + 1) (by omega)
    have take : scn (rkY Y r) w (i + 1) = some i → wpX (d + 1) mX7_foremost 53 [aR 6 j, aI (nI r), aI (nI w), aR 26 j, aU, aU, aI (nI i), aI (nI (2 ^ i)), aI (rk32 Y r i)] [] S P := by
      intro h
      refine s_X7_foremost_53 ?_
      simp only [B_X7_foremost_53, wi_iload, wi_istore, no0, no1, nz1, nz2, nz3, nz4, nz5, nz7, nz8, Classical.not_not, bz0, bz1, wi_nil, ld_0, ld_s, isIv_I, isLv_L, isRv_R, true_and, and_true, lset_0, lset_1, lset_s, avw_I, avw_L, avw_R, clr_cons, clr_nil, kst_0, kst_1, kstL_0, kstL_1, addk_I, pA_0, pA_s, pD_0, pD_s, wid_nil, wid_cons, rcv_c, putv_I, putv_L, List.length_cons, List.length_nil, List.set_cons_zero, List.set_cons_succ, not_false_eq_true, Nat.reduceMod, Nat.reduceDiv, Nat.reduceEqDiff, Nat.reduceLT, Nat.reduceLeDiff, Nat.reduceAdd, Nat.reduceSub, reduceIte, Nat.lt_irrefl, Nat.zero_ne_one, Nat.one_ne_zero, Nat.zero_add, List.nil_append, List.cons_append, Option.toList_some, Option.toList_none, forall_const, false_implies, true_implies, false_or, or_false, true_or, or_true]
      refine up _ _ ?_ ?_
      · unfold fmB; rw [h]
      · unfold fmL; rw [h]
    cases hs : scn (rkY Y r) w i with
    | none =>
      have eB : fmB Y r w i = 0 := by unfold fmB; rw [hs]
      rw [eB]
      refine ⟨fun h => ?_, fun h => ⟨fun _ => take ?_, fun h2 => absurd nI_0 h2⟩⟩
      · have e : scn (rkY Y r) w (i + 1) = none := by rw [scn, hs]; simp [h]
        refine up _ _ ?_ ?_
        · unfold fmB; rw [e]
        · unfold fmL; rw [e, hs]
      · rw [scn, hs]
        simp at h
        simp [h]
    | some b =>
      have hb := scn_in hs
      have hb2 : 2 ^ b < 32 := Nat.pow_lt_pow_right (a := 2) (by decide) (show b < 5 by omega)
      have hb0 := Nat.two_pow_pos b
      have eB : fmB Y r w i = 2 ^ b := by unfold fmB; rw [hs]
      have eL : fmL Y r w i = rk32 Y r b := by unfold fmL; rw [hs]
      rw [eB, eL, i_eq0 (by omega), rk_ge ho hB (by omega) (by omega)]
      refine ⟨fun h => ?_, fun h => ⟨fun h2 => absurd h2 (by omega), fun _ => ⟨fun h3 => ?_, fun h3 => take ?_⟩⟩⟩
      · have e : scn (rkY Y r) w (i + 1) = some b := by rw [scn, hs]; simp [h]
        refine up _ _ ?_ ?_
        · unfold fmB; rw [e]
        · unfold fmL; rw [e]
      · have e : scn (rkY Y r) w (i + 1) = some b := by rw [scn, hs]; simp [h3]
        refine up _ _ ?_ ?_
        · unfold fmB; rw [e]
        · unfold fmL; rw [e]
      · rw [scn, hs]
        have h4 : w.testBit i = true := by simpa using h
        have h5 : rkY Y r i < rkY Y r b := by simpa using h3
        simp [h4, h5]
theorem c_foremost {r w : Nat} (hj : j < 5) (hy : YrX S j Y) (ho : YOk B Y) (hB : B < 1000) (hr : r < 4) (hw32 : w < 32) (hw : ∀ s, s < 32 → gA S 26 j s = nI (csum (ycz Y) 5 s)) (q : P (some (aI (nI (fmB Y r w (Y 6 0))))) S) : wpM (d + 2) mX7_foremost [aR 6 j, aI (nI r), aI (nI w), aR 26 j] S P := by
  refine x_entry (ls2 := [aR 6 j, aI (nI r), aI (nI w), aR 26 j, aU, aU, aU, aU, aU]) (Nat.le_of_ble_eq_true rfl) pl_7 rfl (Nat.le_of_ble_eq_true rfl) ?_
  refine s_X7_foremost_0 ?_
  simp only [B_X7_foremost_0, wi_iconst, wi_istore, no0, no1, nz1, nz2, nz3, nz4, nz5, nz7, nz8, Classical.not_not, bz0, bz1, wi_nil, ld_0, ld_s, isIv_I, isLv_L, isRv_R, true_and, and_true, lset_0, lset_1, lset_s, avw_I, avw_L, avw_R, clr_cons, clr_nil, kst_0, kst_1, kstL_0, kstL_1, addk_I, pA_0, pA_s, pD_0, pD_s, wid_nil, wid_cons, rcv_c, putv_I, putv_L, List.length_cons, List.length_nil, List.set_cons_zero, List.set_cons_succ, not_false_eq_true, Nat.reduceMod, Nat.reduceDiv, Nat.reduceEqDiff, Nat.reduceLT, Nat.reduceLeDiff, Nat.reduceAdd, Nat.reduceSub, reduceIte, Nat.lt_irrefl, Nat.zero_ne_one, Nat.one_ne_zero, Nat.zero_add, List.nil_append, List.cons_append, Option.toList_some, Option.toList_none, forall_const, false_implies, true_implies, false_or, or_false, true_or, or_true]
  exact l_foremost hj hy ho hB hr hw32 hw q (Y 6 0) 0 (by omega)
theorem i_rm {w b : Nat} (hw : w < 32) (hb : b < 5) : nI w &&& (nI (2 ^ b) ^^^ -nI 1) = nI (w &&& (31 - 2 ^ b)) := i_andn hw (Nat.pow_lt_pow_right (a := 2) (by decide) hb)
theorem csum_lt (ho : YOk B Y) (s : Nat) : csum (ycz Y) 5 s ≤ 90 := by
  have hz : ∀ i, i < 5 → ycz Y i ≤ 18 := by
    intro i _
    unfold ycz
    split
    · rename_i h; exact yc_le ho h
    · omega
  have := csum_le (f := ycz Y) (b := 18) 5 s hz
  omega
theorem l_choice {r : Nat} (hj : j < 5) (hy : YrX S j Y) (ho : YOk B Y) (hB : B < 1000) (hr : r < 4) (hw : ∀ s, s < 32 → gA S 26 j s = nI (csum (ycz Y) 5 s)) : ∀ (n k w s : Nat), k + n = Y 6 0 → w < 32 → s < 32 → (∀ i, w.testBit i = true → s.testBit i = false) → P (some (aI (nI (chs (ycz Y) (rkY Y r) (Y 6 0) (Y 6 2) n w s)))) S → wpX (d + 2) mX7_choice 16 [aR 6 j, aI (nI r), aR 26 j, aI (nI s), aI (nI w), aI (nI k), aU] [] S P := by
  have hn5 := ho.1.1
  intro n
  induction n with
  | zero =>
    intro k w s hk hw32 hs32 hd q
    refine s_X7_choice_16 ?_
    simp only [B_X7_choice_16, wi_iload, wi_aload_n, wi_getfield, fldv_6_7, fds_6_7, cnt_6, wi_icmp_ge, wi_if_eq, wi_iload_n, wi_invokevirtual, no0, no1, nz1, nz2, nz3, nz4, nz5, nz7, nz8, Classical.not_not, bz0, bz1, wi_nil, ld_0, ld_s, isIv_I, isLv_L, isRv_R, true_and, and_true, lset_0, lset_1, lset_s, avw_I, avw_L, avw_R, clr_cons, clr_nil, kst_0, kst_1, kstL_0, kstL_1, addk_I, pA_0, pA_s, pD_0, pD_s, wid_nil, wid_cons, rcv_c, putv_I, putv_L, List.length_cons, List.length_nil, List.set_cons_zero, List.set_cons_succ, not_false_eq_true, Nat.reduceMod, Nat.reduceDiv, Nat.reduceEqDiff, Nat.reduceLT, Nat.reduceLeDiff, Nat.reduceAdd, Nat.reduceSub, reduceIte, Nat.lt_irrefl, Nat.zero_ne_one, Nat.one_ne_zero, Nat.zero_add, List.nil_append, List.cons_append, Option.toList_some, Option.toList_none, forall_const, false_implies, true_implies, false_or, or_false, true_or, or_true, hj]
    have e0 := hy.2 0 (by decide)
    rw [e0, i_le (by omega) (by omega)]
    refine ⟨fun _ => ?_, fun h => absurd (by omega) h⟩
    refine s_X7_choice_73 ?_
    simp only [B_X7_choice_73, wi_iload_n, wi_ireturn, no0, no1, nz1, nz2, nz3, nz4, nz5, nz7, nz8, Classical.not_not, bz0, bz1, wi_nil, ld_0, ld_s, isIv_I, isLv_L, isRv_R, true_and, and_true, lset_0, lset_1, lset_s, avw_I, avw_L, avw_R, clr_cons, clr_nil, kst_0, kst_1, kstL_0, kstL_1, addk_I, pA_0, pA_s, pD_0, pD_s, wid_nil, wid_cons, rcv_c, putv_I, putv_L, List.length_cons, List.length_nil, List.set_cons_zero, List.set_cons_succ, not_false_eq_true, Nat.reduceMod, Nat.reduceDiv, Nat.reduceEqDiff, Nat.reduceLT, Nat.reduceLeDiff, Nat.reduceAdd, Nat.reduceSub, reduceIte, Nat.lt_irrefl, Nat.zero_ne_one, Nat.one_ne_zero, Nat.zero_add, List.nil_append, List.cons_append, Option.toList_some, Option.toList_none, forall_const, false_implies, true_implies, false_or, or_false, true_or, or_true]
    exact q
  | succ n ih =>
    intro k w s hk hw32 hs32 hd q
    refine s_X7_choice_16 ?_
    simp only [B_X7_choice_16, wi_iload, wi_aload_n, wi_getfield, fldv_6_7, fds_6_7, cnt_6, wi_icmp_ge, wi_if_eq, wi_iload_n, wi_invokevirtual, no0, no1, nz1, nz2, nz3, nz4, nz5, nz7, nz8, Classical.not_not, bz0, bz1, wi_nil, ld_0, ld_s, isIv_I, isLv_L, isRv_R, true_and, and_true, lset_0, lset_1, lset_s, avw_I, avw_L, avw_R, clr_cons, clr_nil, kst_0, kst_1, kstL_0, kstL_1, addk_I, pA_0, pA_s, pD_0, pD_s, wid_nil, wid_cons, rcv_c, putv_I, putv_L, List.length_cons, List.length_nil, List.set_cons_zero, List.set_cons_succ, not_false_eq_true, Nat.reduceMod, Nat.reduceDiv, Nat.reduceEqDiff, Nat.reduceLT, Nat.reduceLeDiff, Nat.reduceAdd, Nat.reduceSub, reduceIte, Nat.lt_irrefl, Nat.zero_ne_one, Nat.one_ne_zero, Nat.zero_add, List.nil_append, List.cons_append, Option.toList_some, Option.toList_none, forall_const, false_implies, true_implies, false_or, or_false, true_or, or_true, hj]
    have e0 := hy.2 0 (by decide)
    rw [e0, i_le (by omega) (by omega), i_eq0 (by omega)]
    refine ⟨fun h => absurd h (by omega), fun _ => ⟨fun h => ?_, fun h => ?_⟩⟩
    · refine s_X7_choice_73 ?_
      simp only [B_X7_choice_73, wi_iload_n, wi_ireturn, no0, no1, nz1, nz2, nz3, nz4, nz5, nz7, nz8, Classical.not_not, bz0, bz1, wi_nil, ld_0, ld_s, isIv_I, isLv_L, isRv_R, true_and, and_true, lset_0, lset_1, lset_s, avw_I, avw_L, avw_R, clr_cons, clr_nil, kst_0, kst_1, kstL_0, kstL_1, addk_I, pA_0, pA_s, pD_0, pD_s, wid_nil, wid_cons, rcv_c, putv_I, putv_L, List.length_cons, List.length_nil, List.set_cons_zero, List.set_cons_succ, not_false_eq_true, Nat.reduceMod, Nat.reduceDiv, Nat.reduceEqDiff, Nat.reduceLT, Nat.reduceLeDiff, Nat.reduceAdd, Nat.reduceSub, reduceIte, Nat.lt_irrefl, Nat.zero_ne_one, Nat.one_ne_zero, Nat.zero_add, List.nil_append, List.cons_append, Option.toList_some, Option.toList_none, forall_const, false_implies, true_implies, false_or, or_false, true_or, or_true]
      subst h
      rw [chs_none (scn_zero _)] at q
      exact q
    · refine c_foremost hj hy ho hB hr hw32 hw ?_
      cases hsc : scn (rkY Y r) w (Y 6 0) with
      | none =>
        have eB : fmB Y r w (Y 6 0) = 0 := by unfold fmB; rw [hsc]
        rw [eB]
        rw [chs_none hsc] at q
        refine s_X7_choice_38 ?_
        simp only [B_X7_choice_38, wi_istore, wi_iload, wi_iconst, wi_ixor, wi_iand, wi_aload_n, wi_iload_n, wi_ior, wi_iaload, wi_getfield, fldv_6_9, fds_6_9, cnt_6, wi_icmp_gt, wi_istore_n, cnt_26, aTy_26, aLn_26, arr_26, no0, no1, nz1, nz2, nz3, nz4, nz5, nz7, nz8, Classical.not_not, bz0, bz1, wi_nil, ld_0, ld_s, isIv_I, isLv_L, isRv_R, true_and, and_true, lset_0, lset_1, lset_s, avw_I, avw_L, avw_R, clr_cons, clr_nil, kst_0, kst_1, kstL_0, kstL_1, addk_I, pA_0, pA_s, pD_0, pD_s, wid_nil, wid_cons, rcv_c, putv_I, putv_L, List.length_cons, List.length_nil, List.set_cons_zero, List.set_cons_succ, not_false_eq_true, Nat.reduceMod, Nat.reduceDiv, Nat.reduceEqDiff, Nat.reduceLT, Nat.reduceLeDiff, Nat.reduceAdd, Nat.reduceSub, reduceIte, Nat.lt_irrefl, Nat.zero_ne_one, Nat.one_ne_zero, Nat.zero_add, List.nil_append, List.cons_append, Option.toList_some, Option.toList_none, forall_const, false_implies, true_implies, false_or, or_false, true_or, or_true, hj]
        have e2 := hy.2 2 (by decide)
        rw [show nI w &&& (nI 0 ^^^ -nI 1) = nI w from by rw [i_andn hw32 (by decide)]; congr 1; exact fin1 (p := fun w => w &&& (31 - 0) = w) (n := 32) (by decide +kernel) hw32, i_or, Nat.or_zero, i_cl (by omega), hw s hs32, e2]
        have key : wpX (d + 2) mX7_choice 67 [aR 6 j, aI (nI r), aR 26 j, aI (nI s), aI (nI w), aI (nI k), aU] [] S P := by
          refine s_X7_choice_67 ?_
          simp only [B_X7_choice_67, wi_iinc, wi_goto, no0, no1, nz1, nz2, nz3, nz4, nz5, nz7, nz8, Classical.not_not, bz0, bz1, wi_nil, ld_0, ld_s, isIv_I, isLv_L, isRv_R, true_and, and_true, lset_0, lset_1, lset_s, avw_I, avw_L, avw_R, clr_cons, clr_nil, kst_0, kst_1, kstL_0, kstL_1, addk_I, pA_0, pA_s, pD_0, pD_s, wid_nil, wid_cons, rcv_c, putv_I, putv_L, List.length_cons, List.length_nil, List.set_cons_zero, List.set_cons_succ, not_false_eq_true, Nat.reduceMod, Nat.reduceDiv, Nat.reduceEqDiff, Nat.reduceLT, Nat.reduceLeDiff, Nat.reduceAdd, Nat.reduceSub, reduceIte, Nat.lt_irrefl, Nat.zero_ne_one, Nat.one_ne_zero, Nat.zero_add, List.nil_append, List.cons_append, Option.toList_some, Option.toList_none, forall_const, false_implies, true_implies, false_or, or_false, true_or, or_true]
          rw [nI_add]
          exact ih (k + 1) w s (by omega) hw32 hs32 hd (by rw [chs_none hsc]; exact q)
        exact ⟨i_in hs32 (by decide), fun _ => key, fun _ => key⟩
      | some b =>
        have hb := scn_in hsc
        have hb5 : b < 5 := by omega
        have eB : fmB Y r w (Y 6 0) = 2 ^ b := by unfold fmB; rw [hsc]
        rw [eB]
        rw [chs_some hsc] at q
        have hsb := hd b hb.2
        have hin := in_lt hs32 hb5
        have hcl := csum_lt ho (s ||| 2 ^ b)
        refine s_X7_choice_38 ?_
        simp only [B_X7_choice_38, wi_istore, wi_iload, wi_iconst, wi_ixor, wi_iand, wi_aload_n, wi_iload_n, wi_ior, wi_iaload, wi_getfield, fldv_6_9, fds_6_9, cnt_6, wi_icmp_gt, wi_istore_n, cnt_26, aTy_26, aLn_26, arr_26, no0, no1, nz1, nz2, nz3, nz4, nz5, nz7, nz8, Classical.not_not, bz0, bz1, wi_nil, ld_0, ld_s, isIv_I, isLv_L, isRv_R, true_and, and_true, lset_0, lset_1, lset_s, avw_I, avw_L, avw_R, clr_cons, clr_nil, kst_0, kst_1, kstL_0, kstL_1, addk_I, pA_0, pA_s, pD_0, pD_s, wid_nil, wid_cons, rcv_c, putv_I, putv_L, List.length_cons, List.length_nil, List.set_cons_zero, List.set_cons_succ, not_false_eq_true, Nat.reduceMod, Nat.reduceDiv, Nat.reduceEqDiff, Nat.reduceLT, Nat.reduceLeDiff, Nat.reduceAdd, Nat.reduceSub, reduceIte, Nat.lt_irrefl, Nat.zero_ne_one, Nat.one_ne_zero, Nat.zero_add, List.nil_append, List.cons_append, Option.toList_some, Option.toList_none, forall_const, false_implies, true_implies, false_or, or_false, true_or, or_true, hj]
        have e2 := hy.2 2 (by decide)
        rw [i_rm hw32 hb5, i_or, i_cl (by omega), hw _ hin, e2, i_lt (by have := ho.1.2.2.1; omega) (by omega)]
        have ec : csum (ycz Y) 5 (s ||| 2 ^ b) = csum (ycz Y) 5 s + ycz Y b := by rw [csum_ins hsb, if_pos hb5]
        rw [ec]
        have key : ∀ s2, s2 = (if csum (ycz Y) 5 s + ycz Y b ≤ Y 6 2 then s ||| 2 ^ b else s) → wpX (d + 2) mX7_choice 67 [aR 6 j, aI (nI r), aR 26 j, aI (nI s2), aI (nI (w &&& (31 - 2 ^ b))), aI (nI k), aU] [] S P := by
          intro s2 hs2
          refine s_X7_choice_67 ?_
          simp only [B_X7_choice_67, wi_iinc, wi_goto, no0, no1, nz1, nz2, nz3, nz4, nz5, nz7, nz8, Classical.not_not, bz0, bz1, wi_nil, ld_0, ld_s, isIv_I, isLv_L, isRv_R, true_and, and_true, lset_0, lset_1, lset_s, avw_I, avw_L, avw_R, clr_cons, clr_nil, kst_0, kst_1, kstL_0, kstL_1, addk_I, pA_0, pA_s, pD_0, pD_s, wid_nil, wid_cons, rcv_c, putv_I, putv_L, List.length_cons, List.length_nil, List.set_cons_zero, List.set_cons_succ, not_false_eq_true, Nat.reduceMod, Nat.reduceDiv, Nat.reduceEqDiff, Nat.reduceLT, Nat.reduceLeDiff, Nat.reduceAdd, Nat.reduceSub, reduceIte, Nat.lt_irrefl, Nat.zero_ne_one, Nat.one_ne_zero, Nat.zero_add, List.nil_append, List.cons_append, Option.toList_some, Option.toList_none, forall_const, false_implies, true_implies, false_or, or_false, true_or, or_true]
          rw [nI_add]
          refine ih (k + 1) _ s2 (by omega) (rm_lt hw32) ?_ (fun i hi => ?_) (by rw [hs2]; exact q)
          · rw [hs2]; split
            · exact hin
            · exact hs32
          · rw [rm_bit hw32 hb5] at hi
            simp only [Bool.and_eq_true, Bool.not_eq_true', decide_eq_false_iff_not] at hi
            rw [hs2]
            split
            · rw [in_bit, hd i hi.1]
              simp [hi.2]
            · exact hd i hi.1
        refine ⟨i_in hin (by decide), fun h2 => key s ?_, fun h2 => key _ ?_⟩
        · rw [if_neg (by omega)]
        · rw [if_pos (by omega)]
theorem c_choice {r : Nat} (hj : j < 5) (hy : YrX S j Y) (ho : YOk B Y) (hB : B < 1000) (hr : r < 4) (q : ∀ g, (∀ s, s < 32 → g s = nI (csum (ycz Y) 5 s)) → P (some (aI (nI (chY Y r)))) (sA S 26 j g)) : wpM (d + 3) mX7_choice [aR 6 j, aI (nI r)] S P := by
  refine x_entry (ls2 := [aR 6 j, aI (nI r), aU, aU, aU, aU, aU]) (Nat.le_of_ble_eq_true rfl) pl_7 rfl (Nat.le_of_ble_eq_true rfl) ?_
  refine s_X7_choice_0 ?_
  simp only [B_X7_choice_0, wi_aload_n, wi_invokevirtual, cnt_6, no0, no1, nz1, nz2, nz3, nz4, nz5, nz7, nz8, Classical.not_not, bz0, bz1, wi_nil, ld_0, ld_s, isIv_I, isLv_L, isRv_R, true_and, and_true, lset_0, lset_1, lset_s, avw_I, avw_L, avw_R, clr_cons, clr_nil, kst_0, kst_1, kstL_0, kstL_1, addk_I, pA_0, pA_s, pD_0, pD_s, wid_nil, wid_cons, rcv_c, putv_I, putv_L, List.length_cons, List.length_nil, List.set_cons_zero, List.set_cons_succ, not_false_eq_true, Nat.reduceMod, Nat.reduceDiv, Nat.reduceEqDiff, Nat.reduceLT, Nat.reduceLeDiff, Nat.reduceAdd, Nat.reduceSub, reduceIte, Nat.lt_irrefl, Nat.zero_ne_one, Nat.one_ne_zero, Nat.zero_add, List.nil_append, List.cons_append, Option.toList_some, Option.toList_none, forall_const, false_implies, true_implies, false_or, or_false, true_or, or_true, hj]
  refine c_weighed hj hy ho hB (fun g hg => ?_)
  refine s_X7_choice_4 ?_
  simp only [B_X7_choice_4, wi_astore_n, wi_iconst, wi_istore_n, wi_aload_n, wi_invokevirtual, cnt_6, no0, no1, nz1, nz2, nz3, nz4, nz5, nz7, nz8, Classical.not_not, bz0, bz1, wi_nil, ld_0, ld_s, isIv_I, isLv_L, isRv_R, true_and, and_true, lset_0, lset_1, lset_s, avw_I, avw_L, avw_R, clr_cons, clr_nil, kst_0, kst_1, kstL_0, kstL_1, addk_I, pA_0, pA_s, pD_0, pD_s, wid_nil, wid_cons, rcv_c, putv_I, putv_L, List.length_cons, List.length_nil, List.set_cons_zero, List.set_cons_succ, not_false_eq_true, Nat.reduceMod, Nat.reduceDiv, Nat.reduceEqDiff, Nat.reduceLT, Nat.reduceLeDiff, Nat.reduceAdd, Nat.reduceSub, reduceIte, Nat.lt_irrefl, Nat.zero_ne_one, Nat.one_ne_zero, Nat.zero_add, List.nil_append, List.cons_append, Option.toList_some, Option.toList_none, forall_const, false_implies, true_implies, false_or, or_false, true_or, or_true, hj]
  refine c_open hj (yrx_26 hy) ho ?_
  refine s_X7_choice_11 ?_
  simp only [B_X7_choice_11, wi_istore, wi_iconst, no0, no1, nz1, nz2, nz3, nz4, nz5, nz7, nz8, Classical.not_not, bz0, bz1, wi_nil, ld_0, ld_s, isIv_I, isLv_L, isRv_R, true_and, and_true, lset_0, lset_1, lset_s, avw_I, avw_L, avw_R, clr_cons, clr_nil, kst_0, kst_1, kstL_0, kstL_1, addk_I, pA_0, pA_s, pD_0, pD_s, wid_nil, wid_cons, rcv_c, putv_I, putv_L, List.length_cons, List.length_nil, List.set_cons_zero, List.set_cons_succ, not_false_eq_true, Nat.reduceMod, Nat.reduceDiv, Nat.reduceEqDiff, Nat.reduceLT, Nat.reduceLeDiff, Nat.reduceAdd, Nat.reduceSub, reduceIte, Nat.lt_irrefl, Nat.zero_ne_one, Nat.one_ne_zero, Nat.zero_add, List.nil_append, List.cons_append, Option.toList_some, Option.toList_none, forall_const, false_implies, true_implies, false_or, or_false, true_or, or_true]
  refine l_choice hj (yrx_26 hy) ho hB hr (fun s hs => by rw [gA_same]; exact hg s hs) (Y 6 0) 0 (yop Y) 0 (by omega) (yop_lt ho.1.1) (by decide) (fun i _ => Nat.zero_testBit i) (q g hg)
end
