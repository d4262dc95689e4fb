-- PART 15: the smallest methods: Kinds, Integer.bitCount, Arrays.fill, Acts
theorem c_price {d k e h p c dd : Nat} {S : MS} {P : Option AV → MS → Prop} (hk : k < 6) (he : e ≤ 9) (hh : h ≤ 9) (hp : p ≤ 9) (hc : c < 2000) (hd : dd < 2000) (q : P (some (aI (nI (prc k e h p c dd)))) S) : wpM (d + 1) mX1_price [aI (nI k), aI (nI e), aI (nI h), aI (nI p), aI (nI c), aI (nI dd)] S P := by
  refine x_entry (ls2 := [aI (nI k), aI (nI e), aI (nI h), aI (nI p), aI (nI c), aI (nI dd), aU, aU]) (Nat.le_of_ble_eq_true rfl) pl_1 rfl (Nat.le_of_ble_eq_true rfl) ?_
  refine s_X1_price_0 ?_
  simp only [B_X1_price_0, wi_iconst, wi_iload_n, wi_isub, wi_max, wi_istore, wi_iload, wi_irem, wi_if_ne, wi_goto, no0, no1, nz1, nz2, nz3, nz4, nz5, nz7, nz8, Classical.not_not, bz0, bz1, wi_nil, ld_0, ld_s, isIv_I, isLv_L, isRv_R, true_and, and_true, lset_0, lset_1, lset_s, avw_I, avw_L, avw_R, clr_cons, clr_nil, kst_0, kst_1, kstL_0, kstL_1, addk_I, pA_0, pA_s, pD_0, pD_s, wid_nil, wid_cons, rcv_c, putv_I, putv_L, List.length_cons, List.length_nil, List.set_cons_zero, List.set_cons_succ, not_false_eq_true, Nat.reduceMod, Nat.reduceDiv, Nat.reduceEqDiff, Nat.reduceLT, Nat.reduceLeDiff, Nat.reduceAdd, Nat.reduceSub, reduceIte, Nat.lt_irrefl, Nat.zero_ne_one, Nat.one_ne_zero, Nat.zero_add, List.nil_append, List.cons_append, Option.toList_some, Option.toList_none, forall_const, false_implies, true_implies, false_or, or_false, true_or, or_true]
  rw [i_max0 (by omega) (by omega), i_rem (by omega) (by decide) (by decide), i_eq0 (by omega)]
  have key : ∀ r, r = (if dd % 3 = 0 then 2 else 0) → wpX d mX1_price 23 [aI (nI k), aU, aU, aI (nI p), aI (nI c), aI (nI dd), aI (nI (e - h)), aU] [aI (nI r), aI (nI (e - h))] S P := by
    intro r hr
    have hr2 : r ≤ 2 := by rw [hr]; split <;> omega
    refine s_X1_price_23 ?_
    simp only [B_X1_price_23, wi_iadd, wi_istore, wi_iload_n, wi_tsw, no0, no1, nz1, nz2, nz3, nz4, nz5, nz7, nz8, Classical.not_not, bz0, bz1, wi_nil, ld_0, ld_s, isIv_I, isLv_L, isRv_R, true_and, and_true, lset_0, lset_1, lset_s, avw_I, avw_L, avw_R, clr_cons, clr_nil, kst_0, kst_1, kstL_0, kstL_1, addk_I, pA_0, pA_s, pD_0, pD_s, wid_nil, wid_cons, rcv_c, putv_I, putv_L, List.length_cons, List.length_nil, List.set_cons_zero, List.set_cons_succ, not_false_eq_true, Nat.reduceMod, Nat.reduceDiv, Nat.reduceEqDiff, Nat.reduceLT, Nat.reduceLeDiff, Nat.reduceAdd, Nat.reduceSub, reduceIte, Nat.lt_irrefl, Nat.zero_ne_one, Nat.one_ne_zero, Nat.zero_add, List.nil_append, List.cons_append, Option.toList_some, Option.toList_none, forall_const, false_implies, true_implies, false_or, or_false, true_or, or_true]
    rw [nI_add]
    rcases (show k = 0 ∨ k = 1 ∨ k = 2 ∨ k = 3 ∨ k = 4 ∨ k = 5 by omega) with rfl | rfl | rfl | rfl | rfl | rfl
    · rw [show swt 27 85 1 5 #[33, 45, 64, 36, 69] (nI 0) = 112 from by decide +kernel]
      refine s_X1_price_112 ?_
      simp only [B_X1_price_112, wi_iload, wi_ireturn, no0, no1, nz1, nz2, nz3, nz4, nz5, nz7, nz8, Classical.not_not, bz0, bz1, wi_nil, ld_0, ld_s, isIv_I, isLv_L, isRv_R, true_and, and_true, lset_0, lset_1, lset_s, avw_I, avw_L, avw_R, clr_cons, clr_nil, kst_0, kst_1, kstL_0, kstL_1, addk_I, pA_0, pA_s, pD_0, pD_s, wid_nil, wid_cons, rcv_c, putv_I, putv_L, List.length_cons, List.length_nil, List.set_cons_zero, List.set_cons_succ, not_false_eq_true, Nat.reduceMod, Nat.reduceDiv, Nat.reduceEqDiff, Nat.reduceLT, Nat.reduceLeDiff, Nat.reduceAdd, Nat.reduceSub, reduceIte, Nat.lt_irrefl, Nat.zero_ne_one, Nat.one_ne_zero, Nat.zero_add, List.nil_append, List.cons_append, Option.toList_some, Option.toList_none, forall_const, false_implies, true_implies, false_or, or_false, true_or, or_true]
      exact q
    · rw [show swt 27 85 1 5 #[33, 45, 64, 36, 69] (nI 1) = 60 from by decide +kernel]
      refine s_X1_price_60 ?_
      simp only [B_X1_price_60, wi_iload, wi_ireturn, no0, no1, nz1, nz2, nz3, nz4, nz5, nz7, nz8, Classical.not_not, bz0, bz1, wi_nil, ld_0, ld_s, isIv_I, isLv_L, isRv_R, true_and, and_true, lset_0, lset_1, lset_s, avw_I, avw_L, avw_R, clr_cons, clr_nil, kst_0, kst_1, kstL_0, kstL_1, addk_I, pA_0, pA_s, pD_0, pD_s, wid_nil, wid_cons, rcv_c, putv_I, putv_L, List.length_cons, List.length_nil, List.set_cons_zero, List.set_cons_succ, not_false_eq_true, Nat.reduceMod, Nat.reduceDiv, Nat.reduceEqDiff, Nat.reduceLT, Nat.reduceLeDiff, Nat.reduceAdd, Nat.reduceSub, reduceIte, Nat.lt_irrefl, Nat.zero_ne_one, Nat.one_ne_zero, Nat.zero_add, List.nil_append, List.cons_append, Option.toList_some, Option.toList_none, forall_const, false_implies, true_implies, false_or, or_false, true_or, or_true]
      rw [hr]; exact q
    · rw [show swt 27 85 1 5 #[33, 45, 64, 36, 69] (nI 2) = 72 from by decide +kernel]
      refine s_X1_price_72 ?_
      simp only [B_X1_price_72, wi_iload, wi_bipush, wi_irem, wi_icmp_ne, wi_iload_n, wi_goto, no0, no1, nz1, nz2, nz3, nz4, nz5, nz7, nz8, Classical.not_not, bz0, bz1, wi_nil, ld_0, ld_s, isIv_I, isLv_L, isRv_R, true_and, and_true, lset_0, lset_1, lset_s, avw_I, avw_L, avw_R, clr_cons, clr_nil, kst_0, kst_1, kstL_0, kstL_1, addk_I, pA_0, pA_s, pD_0, pD_s, wid_nil, wid_cons, rcv_c, putv_I, putv_L, List.length_cons, List.length_nil, List.set_cons_zero, List.set_cons_succ, not_false_eq_true, Nat.reduceMod, Nat.reduceDiv, Nat.reduceEqDiff, Nat.reduceLT, Nat.reduceLeDiff, Nat.reduceAdd, Nat.reduceSub, reduceIte, Nat.lt_irrefl, Nat.zero_ne_one, Nat.one_ne_zero, Nat.zero_add, List.nil_append, List.cons_append, Option.toList_some, Option.toList_none, forall_const, false_implies, true_implies, false_or, or_false, true_or, or_true]
      rw [i_rem (by omega) (by decide) (by decide), i_eq (by omega) (by decide)]
      have e2 : prc 2 e h p c dd = e - h + (if dd % 7 = 6 then p else 0) := rfl
      rw [e2] at q
      refine ⟨fun h1 => ?_, fun h1 => ?_⟩
      · refine s_X1_price_88 ?_
        simp only [B_X1_price_88, wi_iconst, no0, no1, nz1, nz2, nz3, nz4, nz5, nz7, nz8, Classical.not_not, bz0, bz1, wi_nil, ld_0, ld_s, isIv_I, isLv_L, isRv_R, true_and, and_true, lset_0, lset_1, lset_s, avw_I, avw_L, avw_R, clr_cons, clr_nil, kst_0, kst_1, kstL_0, kstL_1, addk_I, pA_0, pA_s, pD_0, pD_s, wid_nil, wid_cons, rcv_c, putv_I, putv_L, List.length_cons, List.length_nil, List.set_cons_zero, List.set_cons_succ, not_false_eq_true, Nat.reduceMod, Nat.reduceDiv, Nat.reduceEqDiff, Nat.reduceLT, Nat.reduceLeDiff, Nat.reduceAdd, Nat.reduceSub, reduceIte, Nat.lt_irrefl, Nat.zero_ne_one, Nat.one_ne_zero, Nat.zero_add, List.nil_append, List.cons_append, Option.toList_some, Option.toList_none, forall_const, false_implies, true_implies, false_or, or_false, true_or, or_true]
        refine s_X1_price_89 ?_
        simp only [B_X1_price_89, wi_iadd, wi_ireturn, no0, no1, nz1, nz2, nz3, nz4, nz5, nz7, nz8, Classical.not_not, bz0, bz1, wi_nil, ld_0, ld_s, isIv_I, isLv_L, isRv_R, true_and, and_true, lset_0, lset_1, lset_s, avw_I, avw_L, avw_R, clr_cons, clr_nil, kst_0, kst_1, kstL_0, kstL_1, addk_I, pA_0, pA_s, pD_0, pD_s, wid_nil, wid_cons, rcv_c, putv_I, putv_L, List.length_cons, List.length_nil, List.set_cons_zero, List.set_cons_succ, not_false_eq_true, Nat.reduceMod, Nat.reduceDiv, Nat.reduceEqDiff, Nat.reduceLT, Nat.reduceLeDiff, Nat.reduceAdd, Nat.reduceSub, reduceIte, Nat.lt_irrefl, Nat.zero_ne_one, Nat.one_ne_zero, Nat.zero_add, List.nil_append, List.cons_append, Option.toList_some, Option.toList_none, forall_const, false_implies, true_implies, false_or, or_false, true_or, or_true]
        rw [if_neg h1] at q
        rw [nI_add]; exact q
      · refine s_X1_price_89 ?_
        simp only [B_X1_price_89, wi_iadd, wi_ireturn, no0, no1, nz1, nz2, nz3, nz4, nz5, nz7, nz8, Classical.not_not, bz0, bz1, wi_nil, ld_0, ld_s, isIv_I, isLv_L, isRv_R, true_and, and_true, lset_0, lset_1, lset_s, avw_I, avw_L, avw_R, clr_cons, clr_nil, kst_0, kst_1, kstL_0, kstL_1, addk_I, pA_0, pA_s, pD_0, pD_s, wid_nil, wid_cons, rcv_c, putv_I, putv_L, List.length_cons, List.length_nil, List.set_cons_zero, List.set_cons_succ, not_false_eq_true, Nat.reduceMod, Nat.reduceDiv, Nat.reduceEqDiff, Nat.reduceLT, Nat.reduceLeDiff, Nat.reduceAdd, Nat.reduceSub, reduceIte, Nat.lt_irrefl, Nat.zero_ne_one, Nat.one_ne_zero, Nat.zero_add, List.nil_append, List.cons_append, Option.toList_some, Option.toList_none, forall_const, false_implies, true_implies, false_or, or_false, true_or, or_true]
        rw [if_pos h1] at q
        rw [nI_add]; exact q
    · rw [show swt 27 85 1 5 #[33, 45, 64, 36, 69] (nI 3) = 91 from by decide +kernel]
      refine s_X1_price_91 ?_
      simp only [B_X1_price_91, wi_iload, wi_iconst, wi_idiv, wi_ireturn, no0, no1, nz1, nz2, nz3, nz4, nz5, nz7, nz8, Classical.not_not, bz0, bz1, wi_nil, ld_0, ld_s, isIv_I, isLv_L, isRv_R, true_and, and_true, lset_0, lset_1, lset_s, avw_I, avw_L, avw_R, clr_cons, clr_nil, kst_0, kst_1, kstL_0, kstL_1, addk_I, pA_0, pA_s, pD_0, pD_s, wid_nil, wid_cons, rcv_c, putv_I, putv_L, List.length_cons, List.length_nil, List.set_cons_zero, List.set_cons_succ, not_false_eq_true, Nat.reduceMod, Nat.reduceDiv, Nat.reduceEqDiff, Nat.reduceLT, Nat.reduceLeDiff, Nat.reduceAdd, Nat.reduceSub, reduceIte, Nat.lt_irrefl, Nat.zero_ne_one, Nat.one_ne_zero, Nat.zero_add, List.nil_append, List.cons_append, Option.toList_some, Option.toList_none, forall_const, false_implies, true_implies, false_or, or_false, true_or, or_true]
      rw [i_div (by omega) (by decide) (by decide)]
      exact q
    · rw [show swt 27 85 1 5 #[33, 45, 64, 36, 69] (nI 4) = 63 from by decide +kernel]
      refine s_X1_price_63 ?_
      simp only [B_X1_price_63, wi_iconst, wi_iload, wi_isub, wi_max, wi_ireturn, no0, no1, nz1, nz2, nz3, nz4, nz5, nz7, nz8, Classical.not_not, bz0, bz1, wi_nil, ld_0, ld_s, isIv_I, isLv_L, isRv_R, true_and, and_true, lset_0, lset_1, lset_s, avw_I, avw_L, avw_R, clr_cons, clr_nil, kst_0, kst_1, kstL_0, kstL_1, addk_I, pA_0, pA_s, pD_0, pD_s, wid_nil, wid_cons, rcv_c, putv_I, putv_L, List.length_cons, List.length_nil, List.set_cons_zero, List.set_cons_succ, not_false_eq_true, Nat.reduceMod, Nat.reduceDiv, Nat.reduceEqDiff, Nat.reduceLT, Nat.reduceLeDiff, Nat.reduceAdd, Nat.reduceSub, reduceIte, Nat.lt_irrefl, Nat.zero_ne_one, Nat.one_ne_zero, Nat.zero_add, List.nil_append, List.cons_append, Option.toList_some, Option.toList_none, forall_const, false_implies, true_implies, false_or, or_false, true_or, or_true]
      rw [i_max0 (by omega) (by omega), hr]
      exact q
    · rw [show swt 27 85 1 5 #[33, 45, 64, 36, 69] (nI 5) = 96 from by decide +kernel]
      refine s_X1_price_96 ?_
      simp only [B_X1_price_96, wi_iload, wi_iconst, wi_idiv, wi_if_ne, wi_goto, no0, no1, nz1, nz2, nz3, nz4, nz5, nz7, nz8, Classical.not_not, bz0, bz1, wi_nil, ld_0, ld_s, isIv_I, isLv_L, isRv_R, true_and, and_true, lset_0, lset_1, lset_s, avw_I, avw_L, avw_R, clr_cons, clr_nil, kst_0, kst_1, kstL_0, kstL_1, addk_I, pA_0, pA_s, pD_0, pD_s, wid_nil, wid_cons, rcv_c, putv_I, putv_L, List.length_cons, List.length_nil, List.set_cons_zero, List.set_cons_succ, not_false_eq_true, Nat.reduceMod, Nat.reduceDiv, Nat.reduceEqDiff, Nat.reduceLT, Nat.reduceLeDiff, Nat.reduceAdd, Nat.reduceSub, reduceIte, Nat.lt_irrefl, Nat.zero_ne_one, Nat.one_ne_zero, Nat.zero_add, List.nil_append, List.cons_append, Option.toList_some, Option.toList_none, forall_const, false_implies, true_implies, false_or, or_false, true_or, or_true]
      rw [i_div (by omega) (by decide) (by decide), i_eq0 (by omega)]
      have e2 : prc 5 e h p c dd = (e - h) / 2 + (if c = 0 then 1 else 0) := rfl
      rw [e2] at q
      refine ⟨fun h1 => ?_, fun h1 => ?_⟩
      · refine s_X1_price_109 ?_
        simp only [B_X1_price_109, wi_iconst, no0, no1, nz1, nz2, nz3, nz4, nz5, nz7, nz8, Classical.not_not, bz0, bz1, wi_nil, ld_0, ld_s, isIv_I, isLv_L, isRv_R, true_and, and_true, lset_0, lset_1, lset_s, avw_I, avw_L, avw_R, clr_cons, clr_nil, kst_0, kst_1, kstL_0, kstL_1, addk_I, pA_0, pA_s, pD_0, pD_s, wid_nil, wid_cons, rcv_c, putv_I, putv_L, List.length_cons, List.length_nil, List.set_cons_zero, List.set_cons_succ, not_false_eq_true, Nat.reduceMod, Nat.reduceDiv, Nat.reduceEqDiff, Nat.reduceLT, Nat.reduceLeDiff, Nat.reduceAdd, Nat.reduceSub, reduceIte, Nat.lt_irrefl, Nat.zero_ne_one, Nat.one_ne_zero, Nat.zero_add, List.nil_append, List.cons_append, Option.toList_some, Option.toList_none, forall_const, false_implies, true_implies, false_or, or_false, true_or, or_true]
        refine s_X1_price_110 ?_
        simp only [B_X1_price_110, wi_iadd, wi_ireturn, no0, no1, nz1, nz2, nz3, nz4, nz5, nz7, nz8, Classical.not_not, bz0, bz1, wi_nil, ld_0, ld_s, isIv_I, isLv_L, isRv_R, true_and, and_true, lset_0, lset_1, lset_s, avw_I, avw_L, avw_R, clr_cons, clr_nil, kst_0, kst_1, kstL_0, kstL_1, addk_I, pA_0, pA_s, pD_0, pD_s, wid_nil, wid_cons, rcv_c, putv_I, putv_L, List.length_cons, List.length_nil, List.set_cons_zero, List.set_cons_succ, not_false_eq_true, Nat.reduceMod, Nat.reduceDiv, Nat.reduceEqDiff, Nat.reduceLT, Nat.reduceLeDiff, Nat.reduceAdd, Nat.reduceSub, reduceIte, Nat.lt_irrefl, Nat.zero_ne_one, Nat.one_ne_zero, Nat.zero_add, List.nil_append, List.cons_append, Option.toList_some, Option.toList_none, forall_const, false_implies, true_implies, false_or, or_false, true_or, or_true]
        rw [if_neg h1] at q
        rw [nI_add]; exact q
      · refine s_X1_price_110 ?_
        simp only [B_X1_price_110, wi_iadd, wi_ireturn, no0, no1, nz1, nz2, nz3, nz4, nz5, nz7, nz8, Classical.not_not, bz0, bz1, wi_nil, ld_0, ld_s, isIv_I, isLv_L, isRv_R, true_and, and_true, lset_0, lset_1, lset_s, avw_I, avw_L, avw_R, clr_cons, clr_nil, kst_0, kst_1, kstL_0, kstL_1, addk_I, pA_0, pA_s, pD_0, pD_s, wid_nil, wid_cons, rcv_c, putv_I, putv_L, List.length_cons, List.length_nil, List.set_cons_zero, List.set_cons_succ, not_false_eq_true, Nat.reduceMod, Nat.reduceDiv, Nat.reduceEqDiff, Nat.reduceLT, Nat.reduceLeDiff, Nat.reduceAdd, Nat.reduceSub, reduceIte, Nat.lt_irrefl, Nat.zero_ne_one, Nat.one_ne_zero, Nat.zero_add, List.nil_append, List.cons_append, Option.toList_some, Option.toList_none, forall_const, false_implies, true_implies, false_or, or_false, true_or, or_true]
        rw [if_pos h1] at q
        rw [nI_add]; exact q
  refine ⟨fun h1 => ?_, fun h1 => key 2 (by rw [if_pos h1])⟩
  refine s_X1_price_22 ?_
  simp only [B_X1_price_22, wi_iconst, no0, no1, nz1, nz2, nz3, nz4, nz5, nz7, nz8, Classical.not_not, bz0, bz1, wi_nil, ld_0, ld_s, isIv_I, isLv_L, isRv_R, true_and, and_true, lset_0, lset_1, lset_s, avw_I, avw_L, avw_R, clr_cons, clr_nil, kst_0, kst_1, kstL_0, kstL_1, addk_I, pA_0, pA_s, pD_0, pD_s, wid_nil, wid_cons, rcv_c, putv_I, putv_L, List.length_cons, List.length_nil, List.set_cons_zero, List.set_cons_succ, not_false_eq_true, Nat.reduceMod, Nat.reduceDiv, Nat.reduceEqDiff, Nat.reduceLT, Nat.reduceLeDiff, Nat.reduceAdd, Nat.reduceSub, reduceIte, Nat.lt_irrefl, Nat.zero_ne_one, Nat.one_ne_zero, Nat.zero_add, List.nil_append, List.cons_append, Option.toList_some, Option.toList_none, forall_const, false_implies, true_implies, false_or, or_false, true_or, or_true]
  exact key 0 (by rw [if_neg h1])
/-- is a of kind b -/
def isk (a b : Nat) : Bool := a == b || (if a = 4 then 1 else if a = 5 then 3 else 0) == b || b == 0
theorem st61 {a : Nat} (h : a < 6) : stT 61 a = nI (if a = 4 then 1 else if a = 5 then 3 else 0) := fin1 (p := fun a => stT 61 a = nI (if a = 4 then 1 else if a = 5 then 3 else 0)) (n := 6) (by decide +kernel) h
theorem st60 {a : Nat} (h : a < 6) : stT 60 a = nI (if a = 0 then 100 else if a = 1 then 114 else if a = 2 then 115 else if a = 3 then 109 else if a = 4 then 104 else 102) := fin1 (p := fun a => stT 60 a = nI (if a = 0 then 100 else if a = 1 then 114 else if a = 2 then 115 else if a = 3 then 109 else if a = 4 then 104 else 102)) (n := 6) (by decide +kernel) h
theorem c_isOf {d a b : Nat} {S : MS} {P : Option AV → MS → Prop} (ha : a < 6) (hb : b < 6) (q : P (some (aI (nI (isk a b).toNat))) S) : wpM (d + 1) mX1_isOf [aI (nI a), aI (nI b)] S P := by
  have yes : isk a b = true → wpX d mX1_isOf 18 [aU, aU] [] S P := by
    intro h
    rw [h] at q
    refine s_X1_isOf_18 ?_
    simp only [B_X1_isOf_18, wi_iconst, wi_goto, no0, no1, nz1, nz2, nz3, nz4, nz5, nz7, nz8, Classical.not_not, bz0, bz1, wi_nil, ld_0, ld_s, isIv_I, isLv_L, isRv_R, true_and, and_true, lset_0, lset_1, lset_s, avw_I, avw_L, avw_R, clr_cons, clr_nil, kst_0, kst_1, kstL_0, kstL_1, addk_I, pA_0, pA_s, pD_0, pD_s, wid_nil, wid_cons, rcv_c, putv_I, putv_L, List.length_cons, List.length_nil, List.set_cons_zero, List.set_cons_succ, not_false_eq_true, Nat.reduceMod, Nat.reduceDiv, Nat.reduceEqDiff, Nat.reduceLT, Nat.reduceLeDiff, Nat.reduceAdd, Nat.reduceSub, reduceIte, Nat.lt_irrefl, Nat.zero_ne_one, Nat.one_ne_zero, Nat.zero_add, List.nil_append, List.cons_append, Option.toList_some, Option.toList_none, forall_const, false_implies, true_implies, false_or, or_false, true_or, or_true]
    refine s_X1_isOf_23 ?_
    simp only [B_X1_isOf_23, wi_ireturn, no0, no1, nz1, nz2, nz3, nz4, nz5, nz7, nz8, Classical.not_not, bz0, bz1, wi_nil, ld_0, ld_s, isIv_I, isLv_L, isRv_R, true_and, and_true, lset_0, lset_1, lset_s, avw_I, avw_L, avw_R, clr_cons, clr_nil, kst_0, kst_1, kstL_0, kstL_1, addk_I, pA_0, pA_s, pD_0, pD_s, wid_nil, wid_cons, rcv_c, putv_I, putv_L, List.length_cons, List.length_nil, List.set_cons_zero, List.set_cons_succ, not_false_eq_true, Nat.reduceMod, Nat.reduceDiv, Nat.reduceEqDiff, Nat.reduceLT, Nat.reduceLeDiff, Nat.reduceAdd, Nat.reduceSub, reduceIte, Nat.lt_irrefl, Nat.zero_ne_one, Nat.one_ne_zero, Nat.zero_add, List.nil_append, List.cons_append, Option.toList_some, Option.toList_none, forall_const, false_implies, true_implies, false_or, or_false, true_or, or_true]
    exact q
  have no : isk a b = false → wpX d mX1_isOf 22 [aU, aU] [] S P := by
    intro h
    rw [h] at q
    refine s_X1_isOf_22 ?_
    simp only [B_X1_isOf_22, wi_iconst, no0, no1, nz1, nz2, nz3, nz4, nz5, nz7, nz8, Classical.not_not, bz0, bz1, wi_nil, ld_0, ld_s, isIv_I, isLv_L, isRv_R, true_and, and_true, lset_0, lset_1, lset_s, avw_I, avw_L, avw_R, clr_cons, clr_nil, kst_0, kst_1, kstL_0, kstL_1, addk_I, pA_0, pA_s, pD_0, pD_s, wid_nil, wid_cons, rcv_c, putv_I, putv_L, List.length_cons, List.length_nil, List.set_cons_zero, List.set_cons_succ, not_false_eq_true, Nat.reduceMod, Nat.reduceDiv, Nat.reduceEqDiff, Nat.reduceLT, Nat.reduceLeDiff, Nat.reduceAdd, Nat.reduceSub, reduceIte, Nat.lt_irrefl, Nat.zero_ne_one, Nat.one_ne_zero, Nat.zero_add, List.nil_append, List.cons_append, Option.toList_some, Option.toList_none, forall_const, false_implies, true_implies, false_or, or_false, true_or, or_true]
    refine s_X1_isOf_23 ?_
    simp only [B_X1_isOf_23, wi_ireturn, no0, no1, nz1, nz2, nz3, nz4, nz5, nz7, nz8, Classical.not_not, bz0, bz1, wi_nil, ld_0, ld_s, isIv_I, isLv_L, isRv_R, true_and, and_true, lset_0, lset_1, lset_s, avw_I, avw_L, avw_R, clr_cons, clr_nil, kst_0, kst_1, kstL_0, kstL_1, addk_I, pA_0, pA_s, pD_0, pD_s, wid_nil, wid_cons, rcv_c, putv_I, putv_L, List.length_cons, List.length_nil, List.set_cons_zero, List.set_cons_succ, not_false_eq_true, Nat.reduceMod, Nat.reduceDiv, Nat.reduceEqDiff, Nat.reduceLT, Nat.reduceLeDiff, Nat.reduceAdd, Nat.reduceSub, reduceIte, Nat.lt_irrefl, Nat.zero_ne_one, Nat.one_ne_zero, Nat.zero_add, List.nil_append, List.cons_append, Option.toList_some, Option.toList_none, forall_const, false_implies, true_implies, false_or, or_false, true_or, or_true]
    exact q
  refine x_entry (ls2 := [aI (nI a), aI (nI b)]) (Nat.le_of_ble_eq_true rfl) pl_1 rfl (Nat.le_of_ble_eq_true rfl) ?_
  refine s_X1_isOf_0 ?_
  simp only [B_X1_isOf_0, wi_iload_n, wi_icmp_eq, wi_getstatic, wi_iaload, wi_if_ne, cnt_61, aTy_61, aLn_61, arr_61, no0, no1, nz1, nz2, nz3, nz4, nz5, nz7, nz8, Classical.not_not, bz0, bz1, wi_nil, ld_0, ld_s, isIv_I, isLv_L, isRv_R, true_and, and_true, lset_0, lset_1, lset_s, avw_I, avw_L, avw_R, clr_cons, clr_nil, kst_0, kst_1, kstL_0, kstL_1, addk_I, pA_0, pA_s, pD_0, pD_s, wid_nil, wid_cons, rcv_c, putv_I, putv_L, List.length_cons, List.length_nil, List.set_cons_zero, List.set_cons_succ, not_false_eq_true, Nat.reduceMod, Nat.reduceDiv, Nat.reduceEqDiff, Nat.reduceLT, Nat.reduceLeDiff, Nat.reduceAdd, Nat.reduceSub, reduceIte, Nat.lt_irrefl, Nat.zero_ne_one, Nat.one_ne_zero, Nat.zero_add, List.nil_append, List.cons_append, Option.toList_some, Option.toList_none, forall_const, false_implies, true_implies, false_or, or_false, true_or, or_true]
  rw [i_cl (by omega), st61 ha, i_eq (by omega) (by omega), i_eq (by split <;> (try split) <;> omega) (by omega), i_eq0 (by omega)]
  refine ⟨fun h1 => yes ?_, fun h1 => ⟨i_in ha (by decide), fun h2 => yes ?_, fun h2 => ⟨fun h3 => no ?_, fun h3 => yes ?_⟩⟩⟩
  · simp [isk, h1]
  · simp [isk, h2]
  · simp [isk, h1, h2, h3]
  · simp [isk, h3]
theorem isk3 {k : Nat} (h : k < 6) : (isk k 3 = true) = (k = 3 ∨ k = 5) := fin1 (p := fun k => (isk k 3 = true) = (k = 3 ∨ k = 5)) (n := 6) (by decide +kernel) h
theorem c_grown {d k h : Nat} {S : MS} {P : Option AV → MS → Prop} (hk : k < 6) (hh : h ≤ 9) (q : P (some (aI (nI (grw k h)))) S) : wpM (d + 2) mX1_grown [aI (nI k), aI (nI h)] S P := by
  refine x_entry (ls2 := [aI (nI k), aI (nI h)]) (Nat.le_of_ble_eq_true rfl) pl_1 rfl (Nat.le_of_ble_eq_true rfl) ?_
  refine s_X1_grown_0 ?_
  simp only [B_X1_grown_0, wi_bipush, wi_iload_n, wi_iconst, wi_invokestatic, no0, no1, nz1, nz2, nz3, nz4, nz5, nz7, nz8, Classical.not_not, bz0, bz1, wi_nil, ld_0, ld_s, isIv_I, isLv_L, isRv_R, true_and, and_true, lset_0, lset_1, lset_s, avw_I, avw_L, avw_R, clr_cons, clr_nil, kst_0, kst_1, kstL_0, kstL_1, addk_I, pA_0, pA_s, pD_0, pD_s, wid_nil, wid_cons, rcv_c, putv_I, putv_L, List.length_cons, List.length_nil, List.set_cons_zero, List.set_cons_succ, not_false_eq_true, Nat.reduceMod, Nat.reduceDiv, Nat.reduceEqDiff, Nat.reduceLT, Nat.reduceLeDiff, Nat.reduceAdd, Nat.reduceSub, reduceIte, Nat.lt_irrefl, Nat.zero_ne_one, Nat.one_ne_zero, Nat.zero_add, List.nil_append, List.cons_append, Option.toList_some, Option.toList_none, forall_const, false_implies, true_implies, false_or, or_false, true_or, or_true]
  refine c_isOf hk (by decide) ?_
  refine s_X1_grown_8 ?_
  simp only [B_X1_grown_8, wi_if_eq, wi_iconst, wi_goto, no0, no1, nz1, nz2, nz3, nz4, nz5, nz7, nz8, Classical.not_not, bz0, bz1, wi_nil, ld_0, ld_s, isIv_I, isLv_L, isRv_R, true_and, and_true, lset_0, lset_1, lset_s, avw_I, avw_L, avw_R, clr_cons, clr_nil, kst_0, kst_1, kstL_0, kstL_1, addk_I, pA_0, pA_s, pD_0, pD_s, wid_nil, wid_cons, rcv_c, putv_I, putv_L, List.length_cons, List.length_nil, List.set_cons_zero, List.set_cons_succ, not_false_eq_true, Nat.reduceMod, Nat.reduceDiv, Nat.reduceEqDiff, Nat.reduceLT, Nat.reduceLeDiff, Nat.reduceAdd, Nat.reduceSub, reduceIte, Nat.lt_irrefl, Nat.zero_ne_one, Nat.one_ne_zero, Nat.zero_add, List.nil_append, List.cons_append, Option.toList_some, Option.toList_none, forall_const, false_implies, true_implies, false_or, or_false, true_or, or_true]
  rw [i_eq0 (by cases isk k 3 <;> decide)]
  have e : grw k h = min 9 (h + if isk k 3 = true then 2 else 1) := by
    unfold grw
    congr 2
    simp only [isk3 hk]
  have key : ∀ r, r ≤ 2 → grw k h = min 9 (h + r) → wpX (d + 1) mX1_grown 16 [aU, aU] [aI (nI r), aI (nI h), aI (nI 9)] S P := by
    intro r hr he
    refine s_X1_grown_16 ?_
    simp only [B_X1_grown_16, wi_iadd, wi_min, wi_ireturn, no0, no1, nz1, nz2, nz3, nz4, nz5, nz7, nz8, Classical.not_not, bz0, bz1, wi_nil, ld_0, ld_s, isIv_I, isLv_L, isRv_R, true_and, and_true, lset_0, lset_1, lset_s, avw_I, avw_L, avw_R, clr_cons, clr_nil, kst_0, kst_1, kstL_0, kstL_1, addk_I, pA_0, pA_s, pD_0, pD_s, wid_nil, wid_cons, rcv_c, putv_I, putv_L, List.length_cons, List.length_nil, List.set_cons_zero, List.set_cons_succ, not_false_eq_true, Nat.reduceMod, Nat.reduceDiv, Nat.reduceEqDiff, Nat.reduceLT, Nat.reduceLeDiff, Nat.reduceAdd, Nat.reduceSub, reduceIte, Nat.lt_irrefl, Nat.zero_ne_one, Nat.one_ne_zero, Nat.zero_add, List.nil_append, List.cons_append, Option.toList_some, Option.toList_none, forall_const, false_implies, true_implies, false_or, or_false, true_or, or_true]
    rw [nI_add, i_min (by decide) (by omega), ← he]
    exact q
  refine ⟨fun h1 => ?_, fun h1 => key 2 (by omega) ?_⟩
  · refine s_X1_grown_15 ?_
    simp only [B_X1_grown_15, wi_iconst, no0, no1, nz1, nz2, nz3, nz4, nz5, nz7, nz8, Classical.not_not, bz0, bz1, wi_nil, ld_0, ld_s, isIv_I, isLv_L, isRv_R, true_and, and_true, lset_0, lset_1, lset_s, avw_I, avw_L, avw_R, clr_cons, clr_nil, kst_0, kst_1, kstL_0, kstL_1, addk_I, pA_0, pA_s, pD_0, pD_s, wid_nil, wid_cons, rcv_c, putv_I, putv_L, List.length_cons, List.length_nil, List.set_cons_zero, List.set_cons_succ, not_false_eq_true, Nat.reduceMod, Nat.reduceDiv, Nat.reduceEqDiff, Nat.reduceLT, Nat.reduceLeDiff, Nat.reduceAdd, Nat.reduceSub, reduceIte, Nat.lt_irrefl, Nat.zero_ne_one, Nat.one_ne_zero, Nat.zero_add, List.nil_append, List.cons_append, Option.toList_some, Option.toList_none, forall_const, false_implies, true_implies, false_or, or_false, true_or, or_true]
    refine key 1 (by omega) ?_
    rw [e, if_neg]
    intro h2
    rw [h2] at h1
    cases h1
  · rw [e, if_pos]
    cases h2 : isk k 3
    · rw [h2] at h1; exact absurd rfl h1
    · rfl
theorem c_shrunk {d k h : Nat} {S : MS} {P : Option AV → MS → Prop} (hk : k < 6) (hh : h ≤ 9) (q : P (some (aI (nI (shr k h)))) S) : wpM (d + 1) mX1_shrunk [aI (nI k), aI (nI h)] S P := by
  refine x_entry (ls2 := [aI (nI k), aI (nI h)]) (Nat.le_of_ble_eq_true rfl) pl_1 rfl (Nat.le_of_ble_eq_true rfl) ?_
  refine s_X1_shrunk_0 ?_
  simp only [B_X1_shrunk_0, wi_iconst, wi_iload_n, wi_icmp_ne, wi_goto, no0, no1, nz1, nz2, nz3, nz4, nz5, nz7, nz8, Classical.not_not, bz0, bz1, wi_nil, ld_0, ld_s, isIv_I, isLv_L, isRv_R, true_and, and_true, lset_0, lset_1, lset_s, avw_I, avw_L, avw_R, clr_cons, clr_nil, kst_0, kst_1, kstL_0, kstL_1, addk_I, pA_0, pA_s, pD_0, pD_s, wid_nil, wid_cons, rcv_c, putv_I, putv_L, List.length_cons, List.length_nil, List.set_cons_zero, List.set_cons_succ, not_false_eq_true, Nat.reduceMod, Nat.reduceDiv, Nat.reduceEqDiff, Nat.reduceLT, Nat.reduceLeDiff, Nat.reduceAdd, Nat.reduceSub, reduceIte, Nat.lt_irrefl, Nat.zero_ne_one, Nat.one_ne_zero, Nat.zero_add, List.nil_append, List.cons_append, Option.toList_some, Option.toList_none, forall_const, false_implies, true_implies, false_or, or_false, true_or, or_true]
  rw [i_eq (by omega) (by decide)]
  unfold shr at q
  have key : ∀ r, r = (if k = 2 then 2 else 1) → wpX d mX1_shrunk 12 [aU, aU] [aI (nI r), aI (nI h), aI (nI 0)] S P := by
    intro r hr
    have hr2 : r ≤ 2 := by rw [hr]; split <;> omega
    refine s_X1_shrunk_12 ?_
    simp only [B_X1_shrunk_12, wi_isub, wi_max, wi_ireturn, no0, no1, nz1, nz2, nz3, nz4, nz5, nz7, nz8, Classical.not_not, bz0, bz1, wi_nil, ld_0, ld_s, isIv_I, isLv_L, isRv_R, true_and, and_true, lset_0, lset_1, lset_s, avw_I, avw_L, avw_R, clr_cons, clr_nil, kst_0, kst_1, kstL_0, kstL_1, addk_I, pA_0, pA_s, pD_0, pD_s, wid_nil, wid_cons, rcv_c, putv_I, putv_L, List.length_cons, List.length_nil, List.set_cons_zero, List.set_cons_succ, not_false_eq_true, Nat.reduceMod, Nat.reduceDiv, Nat.reduceEqDiff, Nat.reduceLT, Nat.reduceLeDiff, Nat.reduceAdd, Nat.reduceSub, reduceIte, Nat.lt_irrefl, Nat.zero_ne_one, Nat.one_ne_zero, Nat.zero_add, List.nil_append, List.cons_append, Option.toList_some, Option.toList_none, forall_const, false_implies, true_implies, false_or, or_false, true_or, or_true]
    rw [i_max0 (by omega) (by omega), hr]
    exact q
  refine ⟨fun h1 => ?_, fun h1 => key 2 (by rw [if_pos h1])⟩
  refine s_X1_shrunk_11 ?_
  simp only [B_X1_shrunk_11, wi_iconst, no0, no1, nz1, nz2, nz3, nz4, nz5, nz7, nz8, Classical.not_not, bz0, bz1, wi_nil, ld_0, ld_s, isIv_I, isLv_L, isRv_R, true_and, and_true, lset_0, lset_1, lset_s, avw_I, avw_L, avw_R, clr_cons, clr_nil, kst_0, kst_1, kstL_0, kstL_1, addk_I, pA_0, pA_s, pD_0, pD_s, wid_nil, wid_cons, rcv_c, putv_I, putv_L, List.length_cons, List.length_nil, List.set_cons_zero, List.set_cons_succ, not_false_eq_true, Nat.reduceMod, Nat.reduceDiv, Nat.reduceEqDiff, Nat.reduceLT, Nat.reduceLeDiff, Nat.reduceAdd, Nat.reduceSub, reduceIte, Nat.lt_irrefl, Nat.zero_ne_one, Nat.one_ne_zero, Nat.zero_add, List.nil_append, List.cons_append, Option.toList_some, Option.toList_none, forall_const, false_implies, true_implies, false_or, or_false, true_or, or_true]
  exact key 1 (by rw [if_neg h1])
def bcE (x : Int32) : Int32 :=
  let a := x - ((x.toUInt32 >>> ((nI 1).toUInt32 &&& Int32.toUInt32 31)).toInt32 &&& nI 1431655765)
  let b := (a &&& nI 858993459) + ((a.toUInt32 >>> ((nI 2).toUInt32 &&& Int32.toUInt32 31)).toInt32 &&& nI 858993459)
  let c := b + (b.toUInt32 >>> ((nI 4).toUInt32 &&& Int32.toUInt32 31)).toInt32 &&& nI 252645135
  let e := c + (c.toUInt32 >>> ((nI 8).toUInt32 &&& Int32.toUInt32 31)).toInt32
  let f := e + (e.toUInt32 >>> ((nI 16).toUInt32 &&& Int32.toUInt32 31)).toInt32
  f &&& nI 63
theorem bcE_eq {s : Nat} (hs : s < 64) : bcE (nI s) = nI (bct s) := fin1 (p := fun s => bcE (nI s) = nI (bct s)) (n := 64) (by decide +kernel) hs
theorem c_bitCount {d s : Nat} {S : MS} {P : Option AV → MS → Prop} (hs : s < 64) (q : P (some (aI (nI (bct s)))) S) : wpM (d + 1) mJ6_bitCount_0f7a4 [aI (nI s)] S P := by
  rw [← bcE_eq hs] at q
  refine x_entry (ls2 := [aI (nI s)]) (Nat.le_of_ble_eq_true rfl) pl_10 rfl (Nat.le_of_ble_eq_true rfl) ?_
  refine s_J6_bitCount_0f7a4_0 ?_
  simp only [B_J6_bitCount_0f7a4_0, wi_iload_n, wi_iconst, wi_iushr, wi_ldc_w, wi_iand, wi_isub, wi_istore_n, wi_iadd, wi_bipush, wi_ireturn, no0, no1, nz1, nz2, nz3, nz4, nz5, nz7, nz8, Classical.not_not, bz0, bz1, wi_nil, ld_0, ld_s, isIv_I, isLv_L, isRv_R, true_and, and_true, lset_0, lset_1, lset_s, avw_I, avw_L, avw_R, clr_cons, clr_nil, kst_0, kst_1, kstL_0, kstL_1, addk_I, pA_0, pA_s, pD_0, pD_s, wid_nil, wid_cons, rcv_c, putv_I, putv_L, List.length_cons, List.length_nil, List.set_cons_zero, List.set_cons_succ, not_false_eq_true, Nat.reduceMod, Nat.reduceDiv, Nat.reduceEqDiff, Nat.reduceLT, Nat.reduceLeDiff, Nat.reduceAdd, Nat.reduceSub, reduceIte, Nat.lt_irrefl, Nat.zero_ne_one, Nat.one_ne_zero, Nat.zero_add, List.nil_append, List.cons_append, Option.toList_some, Option.toList_none, forall_const, false_implies, true_implies, false_or, or_false, true_or, or_true]
  exact q
-- Arrays.fill
def fil (g : Nat → Int32) (f t : Nat) (v : Int32) : Nat → Int32 := fun j => if f ≤ j ∧ j < t then v else g j
theorem fil_0 {g : Nat → Int32} {f : Nat} {v : Int32} : fil g f f v = g := by
  funext j
  unfold fil
  rw [if_neg (by omega)]
theorem fil_upd {g : Nat → Int32} {f t : Nat} {v : Int32} (h : f < t) : fil (upd g f v) (f + 1) t v = fil g f t v := by
  funext j
  unfold fil upd
  by_cases h1 : j = f
  · subst h1
    rw [if_neg (by omega), if_pos rfl, if_pos (by omega)]
  · by_cases h2 : f + 1 ≤ j ∧ j < t
    · rw [if_pos h2, if_pos (by omega)]
    · rw [if_neg h2, if_neg h1, if_neg (by omega)]
theorem sA_sA (S : MS) (k i : Nat) (r r2 : Nat → Int32) : sA (sA S k i r) k i r2 = sA S k i r2 := by
  unfold sA
  refine Prod.ext rfl (Prod.ext rfl ?_)
  funext a b
  show (if a = k ∧ b = i then r2 else if a = k ∧ b = i then r else S.2.2 a b) = if a = k ∧ b = i then r2 else S.2.2 a b
  split <;> rfl
theorem sA_self (S : MS) (k i : Nat) : sA S k i (gA S k i) = S := by
  unfold sA
  refine Prod.ext rfl (Prod.ext rfl ?_)
  funext a b
  show (if a = k ∧ b = i then gA S k i else S.2.2 a b) = S.2.2 a b
  split
  · rename_i h; rw [h.1, h.2]; rfl
  · rfl
theorem gA_same (S : MS) (k i : Nat) (r : Nat → Int32) : gA (sA S k i r) k i = r := by rw [gA_sA, if_pos ⟨rfl, rfl⟩]
theorem l_fill {d t k i : Nat} {v : Int32} {P : Option AV → MS → Prop} (hk : i < cnt k ∧ k < 60) (hy : aTy k = 0) (ht : t ≤ aLn k) (hl : aLn k < 3000) : ∀ (n f : Nat) (S : MS), f + n = t → P none (sA S k i (fil (gA S k i) f t v)) → wpX d mJ7_fill_fda19 10 [aR k i, aU, aI (nI t), aI v, aI (nI f)] [] S P := by
  have h99 : ¬ k = 99 := by omega
  intro n
  induction n with
  | zero =>
    intro f S hf q
    refine s_J7_fill_fda19_10 ?_
    simp only [B_J7_fill_fda19_10, wi_iload, wi_iload_n, wi_icmp_ge, wi_aload_n, wi_iastore, wi_iinc, wi_goto, no0, no1, nz1, nz2, nz3, nz4, nz5, nz7, nz8, Classical.not_not, bz0, bz1, wi_nil, ld_0, ld_s, isIv_I, isLv_L, isRv_R, true_and, and_true, lset_0, lset_1, lset_s, avw_I, avw_L, avw_R, clr_cons, clr_nil, kst_0, kst_1, kstL_0, kstL_1, addk_I, pA_0, pA_s, pD_0, pD_s, wid_nil, wid_cons, rcv_c, putv_I, putv_L, List.length_cons, List.length_nil, List.set_cons_zero, List.set_cons_succ, not_false_eq_true, Nat.reduceMod, Nat.reduceDiv, Nat.reduceEqDiff, Nat.reduceLT, Nat.reduceLeDiff, Nat.reduceAdd, Nat.reduceSub, reduceIte, Nat.lt_irrefl, Nat.zero_ne_one, Nat.one_ne_zero, Nat.zero_add, List.nil_append, List.cons_append, Option.toList_some, Option.toList_none, forall_const, false_implies, true_implies, false_or, or_false, true_or, or_true, hk, hy, h99]
    rw [i_le (by omega) (by omega)]
    refine ⟨fun _ => ?_, fun h => absurd (by omega) h⟩
    refine s_J7_fill_fda19_27 ?_
    simp only [B_J7_fill_fda19_27, wi_return_, no0, no1, nz1, nz2, nz3, nz4, nz5, nz7, nz8, Classical.not_not, bz0, bz1, wi_nil, ld_0, ld_s, isIv_I, isLv_L, isRv_R, true_and, and_true, lset_0, lset_1, lset_s, avw_I, avw_L, avw_R, clr_cons, clr_nil, kst_0, kst_1, kstL_0, kstL_1, addk_I, pA_0, pA_s, pD_0, pD_s, wid_nil, wid_cons, rcv_c, putv_I, putv_L, List.length_cons, List.length_nil, List.set_cons_zero, List.set_cons_succ, not_false_eq_true, Nat.reduceMod, Nat.reduceDiv, Nat.reduceEqDiff, Nat.reduceLT, Nat.reduceLeDiff, Nat.reduceAdd, Nat.reduceSub, reduceIte, Nat.lt_irrefl, Nat.zero_ne_one, Nat.one_ne_zero, Nat.zero_add, List.nil_append, List.cons_append, Option.toList_some, Option.toList_none, forall_const, false_implies, true_implies, false_or, or_false, true_or, or_true]
    rw [show f = t by omega, fil_0, sA_self] at q
    exact q
  | succ n ih =>
    intro f S hf q
    refine s_J7_fill_fda19_10 ?_
    simp only [B_J7_fill_fda19_10, wi_iload, wi_iload_n, wi_icmp_ge, wi_aload_n, wi_iastore, wi_iinc, wi_goto, no0, no1, nz1, nz2, nz3, nz4, nz5, nz7, nz8, Classical.not_not, bz0, bz1, wi_nil, ld_0, ld_s, isIv_I, isLv_L, isRv_R, true_and, and_true, lset_0, lset_1, lset_s, avw_I, avw_L, avw_R, clr_cons, clr_nil, kst_0, kst_1, kstL_0, kstL_1, addk_I, pA_0, pA_s, pD_0, pD_s, wid_nil, wid_cons, rcv_c, putv_I, putv_L, List.length_cons, List.length_nil, List.set_cons_zero, List.set_cons_succ, not_false_eq_true, Nat.reduceMod, Nat.reduceDiv, Nat.reduceEqDiff, Nat.reduceLT, Nat.reduceLeDiff, Nat.reduceAdd, Nat.reduceSub, reduceIte, Nat.lt_irrefl, Nat.zero_ne_one, Nat.one_ne_zero, Nat.zero_add, List.nil_append, List.cons_append, Option.toList_some, Option.toList_none, forall_const, false_implies, true_implies, false_or, or_false, true_or, or_true, hk, hy, h99]
    rw [i_le (by omega) (by omega), nI_add, i_cl (by omega)]
    refine ⟨fun h => absurd h (by omega), fun _ => ⟨i_in (by omega) (by omega), ih (f + 1) _ (by omega) ?_⟩⟩
    rw [gA_same, sA_sA, fil_upd (by omega)]
    exact q
theorem c_range {d n f t : Nat} {S : MS} {P : Option AV → MS → Prop} (h1 : f ≤ t) (h2 : t ≤ n) (hn : n < 3000) (q : P none S) : wpM (d + 1) mJ7_rangeCheck_23922 [aI (nI n), aI (nI f), aI (nI t)] S P := by
  refine x_entry (ls2 := [aI (nI n), aI (nI f), aI (nI t)]) (Nat.le_of_ble_eq_true rfl) pl_13 rfl (Nat.le_of_ble_eq_true rfl) ?_
  refine s_J7_rangeCheck_23922_0 ?_
  simp only [B_J7_rangeCheck_23922_0, wi_iload_n, wi_icmp_le, no0, no1, nz1, nz2, nz3, nz4, nz5, nz7, nz8, Classical.not_not, bz0, bz1, wi_nil, ld_0, ld_s, isIv_I, isLv_L, isRv_R, true_and, and_true, lset_0, lset_1, lset_s, avw_I, avw_L, avw_R, clr_cons, clr_nil, kst_0, kst_1, kstL_0, kstL_1, addk_I, pA_0, pA_s, pD_0, pD_s, wid_nil, wid_cons, rcv_c, putv_I, putv_L, List.length_cons, List.length_nil, List.set_cons_zero, List.set_cons_succ, not_false_eq_true, Nat.reduceMod, Nat.reduceDiv, Nat.reduceEqDiff, Nat.reduceLT, Nat.reduceLeDiff, Nat.reduceAdd, Nat.reduceSub, reduceIte, Nat.lt_irrefl, Nat.zero_ne_one, Nat.one_ne_zero, Nat.zero_add, List.nil_append, List.cons_append, Option.toList_some, Option.toList_none, forall_const, false_implies, true_implies, false_or, or_false, true_or, or_true]
  rw [i_le (by omega) (by omega)]
  refine ⟨fun _ => ?_, fun h => absurd h1 h⟩
  refine s_J7_rangeCheck_23922_46 ?_
  simp only [B_J7_rangeCheck_23922_46, wi_iload_n, wi_if_ge, no0, no1, nz1, nz2, nz3, nz4, nz5, nz7, nz8, Classical.not_not, bz0, bz1, wi_nil, ld_0, ld_s, isIv_I, isLv_L, isRv_R, true_and, and_true, lset_0, lset_1, lset_s, avw_I, avw_L, avw_R, clr_cons, clr_nil, kst_0, kst_1, kstL_0, kstL_1, addk_I, pA_0, pA_s, pD_0, pD_s, wid_nil, wid_cons, rcv_c, putv_I, putv_L, List.length_cons, List.length_nil, List.set_cons_zero, List.set_cons_succ, not_false_eq_true, Nat.reduceMod, Nat.reduceDiv, Nat.reduceEqDiff, Nat.reduceLT, Nat.reduceLeDiff, Nat.reduceAdd, Nat.reduceSub, reduceIte, Nat.lt_irrefl, Nat.zero_ne_one, Nat.one_ne_zero, Nat.zero_add, List.nil_append, List.cons_append, Option.toList_some, Option.toList_none, forall_const, false_implies, true_implies, false_or, or_false, true_or, or_true]
  refine ⟨fun _ => ?_, fun h => absurd (nI_pos' (by omega)) h⟩
  refine s_J7_rangeCheck_23922_59 ?_
  simp only [B_J7_rangeCheck_23922_59, wi_iload_n, wi_icmp_le, no0, no1, nz1, nz2, nz3, nz4, nz5, nz7, nz8, Classical.not_not, bz0, bz1, wi_nil, ld_0, ld_s, isIv_I, isLv_L, isRv_R, true_and, and_true, lset_0, lset_1, lset_s, avw_I, avw_L, avw_R, clr_cons, clr_nil, kst_0, kst_1, kstL_0, kstL_1, addk_I, pA_0, pA_s, pD_0, pD_s, wid_nil, wid_cons, rcv_c, putv_I, putv_L, List.length_cons, List.length_nil, List.set_cons_zero, List.set_cons_succ, not_false_eq_true, Nat.reduceMod, Nat.reduceDiv, Nat.reduceEqDiff, Nat.reduceLT, Nat.reduceLeDiff, Nat.reduceAdd, Nat.reduceSub, reduceIte, Nat.lt_irrefl, Nat.zero_ne_one, Nat.one_ne_zero, Nat.zero_add, List.nil_append, List.cons_append, Option.toList_some, Option.toList_none, forall_const, false_implies, true_implies, false_or, or_false, true_or, or_true]
  rw [i_le (by omega) (by omega)]
  refine ⟨fun _ => ?_, fun h => absurd h2 h⟩
  refine s_J7_rangeCheck_23922_73 ?_
  simp only [B_J7_rangeCheck_23922_73, wi_return_, no0, no1, nz1, nz2, nz3, nz4, nz5, nz7, nz8, Classical.not_not, bz0, bz1, wi_nil, ld_0, ld_s, isIv_I, isLv_L, isRv_R, true_and, and_true, lset_0, lset_1, lset_s, avw_I, avw_L, avw_R, clr_cons, clr_nil, kst_0, kst_1, kstL_0, kstL_1, addk_I, pA_0, pA_s, pD_0, pD_s, wid_nil, wid_cons, rcv_c, putv_I, putv_L, List.length_cons, List.length_nil, List.set_cons_zero, List.set_cons_succ, not_false_eq_true, Nat.reduceMod, Nat.reduceDiv, Nat.reduceEqDiff, Nat.reduceLT, Nat.reduceLeDiff, Nat.reduceAdd, Nat.reduceSub, reduceIte, Nat.lt_irrefl, Nat.zero_ne_one, Nat.one_ne_zero, Nat.zero_add, List.nil_append, List.cons_append, Option.toList_some, Option.toList_none, forall_const, false_implies, true_implies, false_or, or_false, true_or, or_true]
  exact q
theorem c_fill {d f t k i : Nat} {v : Int32} {S : MS} {P : Option AV → MS → Prop} (hk : i < cnt k ∧ k < 60) (hy : aTy k = 0) (hl : aLn k < 3000) (hf : f ≤ t) (ht : t ≤ aLn k) (q : P none (sA S k i (fil (gA S k i) f t v))) : wpM (d + 2) mJ7_fill_fda19 [aR k i, aI (nI f), aI (nI t), aI v] S P := by
  have h99 : ¬ k = 99 := by omega
  have hy3 : aTy k < 3 := by omega
  refine x_entry (ls2 := [aR k i, aI (nI f), aI (nI t), aI v, aU]) (Nat.le_of_ble_eq_true rfl) pl_13 rfl (Nat.le_of_ble_eq_true rfl) ?_
  refine s_J7_fill_fda19_0 ?_
  simp only [B_J7_fill_fda19_0, wi_aload_n, wi_arraylength, wi_iload_n, wi_invokestatic, no0, no1, nz1, nz2, nz3, nz4, nz5, nz7, nz8, Classical.not_not, bz0, bz1, wi_nil, ld_0, ld_s, isIv_I, isLv_L, isRv_R, true_and, and_true, lset_0, lset_1, lset_s, avw_I, avw_L, avw_R, clr_cons, clr_nil, kst_0, kst_1, kstL_0, kstL_1, addk_I, pA_0, pA_s, pD_0, pD_s, wid_nil, wid_cons, rcv_c, putv_I, putv_L, List.length_cons, List.length_nil, List.set_cons_zero, List.set_cons_succ, not_false_eq_true, Nat.reduceMod, Nat.reduceDiv, Nat.reduceEqDiff, Nat.reduceLT, Nat.reduceLeDiff, Nat.reduceAdd, Nat.reduceSub, reduceIte, Nat.lt_irrefl, Nat.zero_ne_one, Nat.one_ne_zero, Nat.zero_add, List.nil_append, List.cons_append, Option.toList_some, Option.toList_none, forall_const, false_implies, true_implies, false_or, or_false, true_or, or_true, hk, hy3, h99]
  refine c_range hf ht hl ?_
  refine s_J7_fill_fda19_7 ?_
  simp only [B_J7_fill_fda19_7, wi_iload_n, wi_istore, no0, no1, nz1, nz2, nz3, nz4, nz5, nz7, nz8, Classical.not_not, bz0, bz1, wi_nil, ld_0, ld_s, isIv_I, isLv_L, isRv_R, true_and, and_true, lset_0, lset_1, lset_s, avw_I, avw_L, avw_R, clr_cons, clr_nil, kst_0, kst_1, kstL_0, kstL_1, addk_I, pA_0, pA_s, pD_0, pD_s, wid_nil, wid_cons, rcv_c, putv_I, putv_L, List.length_cons, List.length_nil, List.set_cons_zero, List.set_cons_succ, not_false_eq_true, Nat.reduceMod, Nat.reduceDiv, Nat.reduceEqDiff, Nat.reduceLT, Nat.reduceLeDiff, Nat.reduceAdd, Nat.reduceSub, reduceIte, Nat.lt_irrefl, Nat.zero_ne_one, Nat.one_ne_zero, Nat.zero_add, List.nil_append, List.cons_append, Option.toList_some, Option.toList_none, forall_const, false_implies, true_implies, false_or, or_false, true_or, or_true, h99]
  exact l_fill hk hy ht hl (t - f) f S (by omega) q
