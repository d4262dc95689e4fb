-- PART 20: Rows, Texts (tables of rows), Share, Acts
/-- a size as it is held: 0 is missing, n + 1 is n -/
def szI (z : Nat) : Int32 := if z = 0 then -nI 1 else nI (z - 1)
theorem sz_eq {z : Nat} (h : z < 1000) : (szI z = -nI 1) = (z = 0) := by
  unfold szI
  split
  · rename_i h0; simp [h0]
  · rename_i h0
    refine propext ⟨fun q => ?_, fun q => absurd q h0⟩
    have h1 := congrArg Int32.toInt q
    rw [nI_toInt (by omega), neg_toInt (by decide)] at h1
    omega
theorem sz_pos {z : Nat} (h : ¬ z = 0) : szI z = nI (z - 1) := by unfold szI; rw [if_neg h]
theorem sz_s {n : Nat} : szI (n + 1) = nI n := rfl
theorem sz_toInt {z : Nat} (h : z < 1000) : (szI z).toInt = (z : Int) - 1 := by
  unfold szI
  split
  · rename_i h0; rw [neg_toInt (by decide), h0]; rfl
  · rw [nI_toInt (by omega)]; omega
theorem sz_neg {z : Nat} (h : z < 1000) : (szI z < 0) = (z = 0) := by
  rw [Int32.lt_iff_toInt_lt, sz_toInt h, Int32.toInt_zero]
  exact propext (by omega)
/-- a table of N rows of at most w: sizes in kz, places in kc -/
def Tb (S : MS) (kz kc N w : Nat) (rs : Nat → Nat) (rc : Nat → Nat → Int32) : Prop := ∀ r, r < N → gA S kz 0 r = szI (rs r) ∧ rs r ≤ w + 1 ∧ ∀ i, i + 1 < rs r → gA S kc 0 (w * r + i) = rc r i
section
variable {d : Nat} {S : MS} {P : Option AV → MS → Prop} {rs : Nat → Nat} {rc : Nat → Nat → Int32}
theorem c_Rthere {r : Nat} (ht : Tb S 15 16 6 40 rs rc) (hr : r < 6) (q : P (some (aI (nI (if rs r = 0 then 0 else 1)))) S) : wpM (d + 1) mX4_isThere [aR 3 0, aI (nI r)] S P := by
  have h := ht r hr
  refine x_entry (ls2 := [aR 3 0, aI (nI r)]) (Nat.le_of_ble_eq_true rfl) pl_4 rfl (Nat.le_of_ble_eq_true rfl) ?_
  refine s_X4_isThere_0 ?_
  simp only [B_X4_isThere_0, wi_aload_n, wi_getfield, fldv_3_0, fds_3_0, cnt_3, wi_iload_n, wi_iaload, wi_iconst, wi_icmp_eq, wi_goto, cnt_15, aTy_15, aLn_15, arr_15, no0, no1, nz1, nz2, nz3, nz4, nz5, nz7, nz8, Classical.not_not, bz0, bz1, wi_nil, ld_0, ld_s, isIv_I, isLv_L, isRv_R, true_and, and_true, lset_0, lset_1, lset_s, avw_I, avw_L, avw_R, clr_cons, clr_nil, kst_0, kst_1, kstL_0, kstL_1, addk_I, pA_0, pA_s, pD_0, pD_s, wid_nil, wid_cons, rcv_c, putv_I, putv_L, List.length_cons, List.length_nil, List.set_cons_zero, List.set_cons_succ, not_false_eq_true, Nat.reduceMod, Nat.reduceDiv, Nat.reduceEqDiff, Nat.reduceLT, Nat.reduceLeDiff, Nat.reduceAdd, Nat.reduceSub, reduceIte, Nat.lt_irrefl, Nat.zero_ne_one, Nat.one_ne_zero, Nat.zero_add, List.nil_append, List.cons_append, Option.toList_some, Option.toList_none, forall_const, false_implies, true_implies, false_or, or_false, true_or, or_true]
  rw [i_cl (by omega), h.1, sz_eq (by omega)]
  refine ⟨i_in hr (by decide), fun h0 => ?_, fun h0 => ?_⟩
  · refine s_X4_isThere_14 ?_
    simp only [B_X4_isThere_14, wi_iconst, no0, no1, nz1, nz2, nz3, nz4, nz5, nz7, nz8, Classical.not_not, bz0, bz1, wi_nil, ld_0, ld_s, isIv_I, isLv_L, isRv_R, true_and, and_true, lset_0, lset_1, lset_s, avw_I, avw_L, avw_R, clr_cons, clr_nil, kst_0, kst_1, kstL_0, kstL_1, addk_I, pA_0, pA_s, pD_0, pD_s, wid_nil, wid_cons, rcv_c, putv_I, putv_L, List.length_cons, List.length_nil, List.set_cons_zero, List.set_cons_succ, not_false_eq_true, Nat.reduceMod, Nat.reduceDiv, Nat.reduceEqDiff, Nat.reduceLT, Nat.reduceLeDiff, Nat.reduceAdd, Nat.reduceSub, reduceIte, Nat.lt_irrefl, Nat.zero_ne_one, Nat.one_ne_zero, Nat.zero_add, List.nil_append, List.cons_append, Option.toList_some, Option.toList_none, forall_const, false_implies, true_implies, false_or, or_false, true_or, or_true]
    refine s_X4_isThere_15 ?_
    simp only [B_X4_isThere_15, wi_ireturn, no0, no1, nz1, nz2, nz3, nz4, nz5, nz7, nz8, Classical.not_not, bz0, bz1, wi_nil, ld_0, ld_s, isIv_I, isLv_L, isRv_R, true_and, and_true, lset_0, lset_1, lset_s, avw_I, avw_L, avw_R, clr_cons, clr_nil, kst_0, kst_1, kstL_0, kstL_1, addk_I, pA_0, pA_s, pD_0, pD_s, wid_nil, wid_cons, rcv_c, putv_I, putv_L, List.length_cons, List.length_nil, List.set_cons_zero, List.set_cons_succ, not_false_eq_true, Nat.reduceMod, Nat.reduceDiv, Nat.reduceEqDiff, Nat.reduceLT, Nat.reduceLeDiff, Nat.reduceAdd, Nat.reduceSub, reduceIte, Nat.lt_irrefl, Nat.zero_ne_one, Nat.one_ne_zero, Nat.zero_add, List.nil_append, List.cons_append, Option.toList_some, Option.toList_none, forall_const, false_implies, true_implies, false_or, or_false, true_or, or_true]
    rw [if_pos h0] at q
    exact q
  · refine s_X4_isThere_15 ?_
    simp only [B_X4_isThere_15, wi_ireturn, no0, no1, nz1, nz2, nz3, nz4, nz5, nz7, nz8, Classical.not_not, bz0, bz1, wi_nil, ld_0, ld_s, isIv_I, isLv_L, isRv_R, true_and, and_true, lset_0, lset_1, lset_s, avw_I, avw_L, avw_R, clr_cons, clr_nil, kst_0, kst_1, kstL_0, kstL_1, addk_I, pA_0, pA_s, pD_0, pD_s, wid_nil, wid_cons, rcv_c, putv_I, putv_L, List.length_cons, List.length_nil, List.set_cons_zero, List.set_cons_succ, not_false_eq_true, Nat.reduceMod, Nat.reduceDiv, Nat.reduceEqDiff, Nat.reduceLT, Nat.reduceLeDiff, Nat.reduceAdd, Nat.reduceSub, reduceIte, Nat.lt_irrefl, Nat.zero_ne_one, Nat.one_ne_zero, Nat.zero_add, List.nil_append, List.cons_append, Option.toList_some, Option.toList_none, forall_const, false_implies, true_implies, false_or, or_false, true_or, or_true]
    rw [if_neg h0] at q
    exact q
theorem c_Tthere {r : Nat} (ht : Tb S 17 18 4 60 rs rc) (hr : r < 4) (q : P (some (aI (nI (if rs r = 0 then 0 else 1)))) S) : wpM (d + 1) mX6_isThere [aR 5 0, aI (nI r)] S P := by
  have h := ht r hr
  refine x_entry (ls2 := [aR 5 0, aI (nI r)]) (Nat.le_of_ble_eq_true rfl) pl_6 rfl (Nat.le_of_ble_eq_true rfl) ?_
  refine s_X6_isThere_0 ?_
  simp only [B_X6_isThere_0, wi_aload_n, wi_getfield, fldv_5_0, fds_5_0, cnt_5, wi_iload_n, wi_iaload, wi_iconst, wi_icmp_eq, wi_goto, cnt_17, aTy_17, aLn_17, arr_17, no0, no1, nz1, nz2, nz3, nz4, nz5, nz7, nz8, Classical.not_not, bz0, bz1, wi_nil, ld_0, ld_s, isIv_I, isLv_L, isRv_R, true_and, and_true, lset_0, lset_1, lset_s, avw_I, avw_L, avw_R, clr_cons, clr_nil, kst_0, kst_1, kstL_0, kstL_1, addk_I, pA_0, pA_s, pD_0, pD_s, wid_nil, wid_cons, rcv_c, putv_I, putv_L, List.length_cons, List.length_nil, List.set_cons_zero, List.set_cons_succ, not_false_eq_true, Nat.reduceMod, Nat.reduceDiv, Nat.reduceEqDiff, Nat.reduceLT, Nat.reduceLeDiff, Nat.reduceAdd, Nat.reduceSub, reduceIte, Nat.lt_irrefl, Nat.zero_ne_one, Nat.one_ne_zero, Nat.zero_add, List.nil_append, List.cons_append, Option.toList_some, Option.toList_none, forall_const, false_implies, true_implies, false_or, or_false, true_or, or_true]
  rw [i_cl (by omega), h.1, sz_eq (by omega)]
  refine ⟨i_in hr (by decide), fun h0 => ?_, fun h0 => ?_⟩
  · refine s_X6_isThere_14 ?_
    simp only [B_X6_isThere_14, wi_iconst, no0, no1, nz1, nz2, nz3, nz4, nz5, nz7, nz8, Classical.not_not, bz0, bz1, wi_nil, ld_0, ld_s, isIv_I, isLv_L, isRv_R, true_and, and_true, lset_0, lset_1, lset_s, avw_I, avw_L, avw_R, clr_cons, clr_nil, kst_0, kst_1, kstL_0, kstL_1, addk_I, pA_0, pA_s, pD_0, pD_s, wid_nil, wid_cons, rcv_c, putv_I, putv_L, List.length_cons, List.length_nil, List.set_cons_zero, List.set_cons_succ, not_false_eq_true, Nat.reduceMod, Nat.reduceDiv, Nat.reduceEqDiff, Nat.reduceLT, Nat.reduceLeDiff, Nat.reduceAdd, Nat.reduceSub, reduceIte, Nat.lt_irrefl, Nat.zero_ne_one, Nat.one_ne_zero, Nat.zero_add, List.nil_append, List.cons_append, Option.toList_some, Option.toList_none, forall_const, false_implies, true_implies, false_or, or_false, true_or, or_true]
    refine s_X6_isThere_15 ?_
    simp only [B_X6_isThere_15, wi_ireturn, no0, no1, nz1, nz2, nz3, nz4, nz5, nz7, nz8, Classical.not_not, bz0, bz1, wi_nil, ld_0, ld_s, isIv_I, isLv_L, isRv_R, true_and, and_true, lset_0, lset_1, lset_s, avw_I, avw_L, avw_R, clr_cons, clr_nil, kst_0, kst_1, kstL_0, kstL_1, addk_I, pA_0, pA_s, pD_0, pD_s, wid_nil, wid_cons, rcv_c, putv_I, putv_L, List.length_cons, List.length_nil, List.set_cons_zero, List.set_cons_succ, not_false_eq_true, Nat.reduceMod, Nat.reduceDiv, Nat.reduceEqDiff, Nat.reduceLT, Nat.reduceLeDiff, Nat.reduceAdd, Nat.reduceSub, reduceIte, Nat.lt_irrefl, Nat.zero_ne_one, Nat.one_ne_zero, Nat.zero_add, List.nil_append, List.cons_append, Option.toList_some, Option.toList_none, forall_const, false_implies, true_implies, false_or, or_false, true_or, or_true]
    rw [if_pos h0] at q
    exact q
  · refine s_X6_isThere_15 ?_
    simp only [B_X6_isThere_15, wi_ireturn, no0, no1, nz1, nz2, nz3, nz4, nz5, nz7, nz8, Classical.not_not, bz0, bz1, wi_nil, ld_0, ld_s, isIv_I, isLv_L, isRv_R, true_and, and_true, lset_0, lset_1, lset_s, avw_I, avw_L, avw_R, clr_cons, clr_nil, kst_0, kst_1, kstL_0, kstL_1, addk_I, pA_0, pA_s, pD_0, pD_s, wid_nil, wid_cons, rcv_c, putv_I, putv_L, List.length_cons, List.length_nil, List.set_cons_zero, List.set_cons_succ, not_false_eq_true, Nat.reduceMod, Nat.reduceDiv, Nat.reduceEqDiff, Nat.reduceLT, Nat.reduceLeDiff, Nat.reduceAdd, Nat.reduceSub, reduceIte, Nat.lt_irrefl, Nat.zero_ne_one, Nat.one_ne_zero, Nat.zero_add, List.nil_append, List.cons_append, Option.toList_some, Option.toList_none, forall_const, false_implies, true_implies, false_or, or_false, true_or, or_true]
    rw [if_neg h0] at q
    exact q
theorem c_Rlength {r : Nat} (ht : Tb S 15 16 6 40 rs rc) (hr : r < 6) (q : P (some (aI (szI (rs r)))) S) : wpM (d + 1) mX4_length [aR 3 0, aI (nI r)] S P := by
  refine x_entry (ls2 := [aR 3 0, aI (nI r)]) (Nat.le_of_ble_eq_true rfl) pl_4 rfl (Nat.le_of_ble_eq_true rfl) ?_
  refine s_X4_length_0 ?_
  simp only [B_X4_length_0, wi_aload_n, wi_getfield, fldv_3_0, fds_3_0, cnt_3, wi_iload_n, wi_iaload, wi_ireturn, cnt_15, aTy_15, aLn_15, arr_15, no0, no1, nz1, nz2, nz3, nz4, nz5, nz7, nz8, Classical.not_not, bz0, bz1, wi_nil, ld_0, ld_s, isIv_I, isLv_L, isRv_R, true_and, and_true, lset_0, lset_1, lset_s, avw_I, avw_L, avw_R, clr_cons, clr_nil, kst_0, kst_1, kstL_0, kstL_1, addk_I, pA_0, pA_s, pD_0, pD_s, wid_nil, wid_cons, rcv_c, putv_I, putv_L, List.length_cons, List.length_nil, List.set_cons_zero, List.set_cons_succ, not_false_eq_true, Nat.reduceMod, Nat.reduceDiv, Nat.reduceEqDiff, Nat.reduceLT, Nat.reduceLeDiff, Nat.reduceAdd, Nat.reduceSub, reduceIte, Nat.lt_irrefl, Nat.zero_ne_one, Nat.one_ne_zero, Nat.zero_add, List.nil_append, List.cons_append, Option.toList_some, Option.toList_none, forall_const, false_implies, true_implies, false_or, or_false, true_or, or_true]
  rw [i_cl (by omega), (ht r hr).1]
  exact ⟨i_in hr (by decide), q⟩
theorem c_Tlength {r : Nat} (ht : Tb S 17 18 4 60 rs rc) (hr : r < 4) (q : P (some (aI (szI (rs r)))) S) : wpM (d + 1) mX6_length [aR 5 0, aI (nI r)] S P := by
  refine x_entry (ls2 := [aR 5 0, aI (nI r)]) (Nat.le_of_ble_eq_true rfl) pl_6 rfl (Nat.le_of_ble_eq_true rfl) ?_
  refine s_X6_length_0 ?_
  simp only [B_X6_length_0, wi_aload_n, wi_getfield, fldv_5_0, fds_5_0, cnt_5, wi_iload_n, wi_iaload, wi_ireturn, cnt_17, aTy_17, aLn_17, arr_17, no0, no1, nz1, nz2, nz3, nz4, nz5, nz7, nz8, Classical.not_not, bz0, bz1, wi_nil, ld_0, ld_s, isIv_I, isLv_L, isRv_R, true_and, and_true, lset_0, lset_1, lset_s, avw_I, avw_L, avw_R, clr_cons, clr_nil, kst_0, kst_1, kstL_0, kstL_1, addk_I, pA_0, pA_s, pD_0, pD_s, wid_nil, wid_cons, rcv_c, putv_I, putv_L, List.length_cons, List.length_nil, List.set_cons_zero, List.set_cons_succ, not_false_eq_true, Nat.reduceMod, Nat.reduceDiv, Nat.reduceEqDiff, Nat.reduceLT, Nat.reduceLeDiff, Nat.reduceAdd, Nat.reduceSub, reduceIte, Nat.lt_irrefl, Nat.zero_ne_one, Nat.one_ne_zero, Nat.zero_add, List.nil_append, List.cons_append, Option.toList_some, Option.toList_none, forall_const, false_implies, true_implies, false_or, or_false, true_or, or_true]
  rw [i_cl (by omega), (ht r hr).1]
  exact ⟨i_in hr (by decide), q⟩
theorem c_Rread {r i : Nat} (ht : Tb S 15 16 6 40 rs rc) (hr : r < 6) (hi : i + 1 < rs r) (q : P (some (aI (rc r i))) S) : wpM (d + 1) mX4_read [aR 3 0, aI (nI r), aI (nI i)] S P := by
  have h := ht r hr
  refine x_entry (ls2 := [aR 3 0, aI (nI r), aI (nI i)]) (Nat.le_of_ble_eq_true rfl) pl_4 rfl (Nat.le_of_ble_eq_true rfl) ?_
  refine s_X4_read_0 ?_
  simp only [B_X4_read_0, wi_aload_n, wi_getfield, fldv_3_1, fds_3_1, cnt_3, wi_iload_n, wi_bipush, wi_imul, wi_iadd, wi_iaload, wi_ireturn, cnt_16, aTy_16, aLn_16, arr_16, no0, no1, nz1, nz2, nz3, nz4, nz5, nz7, nz8, Classical.not_not, bz0, bz1, wi_nil, ld_0, ld_s, isIv_I, isLv_L, isRv_R, true_and, and_true, lset_0, lset_1, lset_s, avw_I, avw_L, avw_R, clr_cons, clr_nil, kst_0, kst_1, kstL_0, kstL_1, addk_I, pA_0, pA_s, pD_0, pD_s, wid_nil, wid_cons, rcv_c, putv_I, putv_L, List.length_cons, List.length_nil, List.set_cons_zero, List.set_cons_succ, not_false_eq_true, Nat.reduceMod, Nat.reduceDiv, Nat.reduceEqDiff, Nat.reduceLT, Nat.reduceLeDiff, Nat.reduceAdd, Nat.reduceSub, reduceIte, Nat.lt_irrefl, Nat.zero_ne_one, Nat.one_ne_zero, Nat.zero_add, List.nil_append, List.cons_append, Option.toList_some, Option.toList_none, forall_const, false_implies, true_implies, false_or, or_false, true_or, or_true]
  rw [pk_mul, nI_add, i_cl (by omega), show r * 40 + i = 40 * r + i by omega, h.2.2 i hi]
  exact ⟨i_in (by omega) (by decide), q⟩
theorem c_Tread {r i : Nat} (ht : Tb S 17 18 4 60 rs rc) (hr : r < 4) (hi : i + 1 < rs r) (q : P (some (aI (rc r i))) S) : wpM (d + 1) mX6_read [aR 5 0, aI (nI r), aI (nI i)] S P := by
  have h := ht r hr
  refine x_entry (ls2 := [aR 5 0, aI (nI r), aI (nI i)]) (Nat.le_of_ble_eq_true rfl) pl_6 rfl (Nat.le_of_ble_eq_true rfl) ?_
  refine s_X6_read_0 ?_
  simp only [B_X6_read_0, wi_aload_n, wi_getfield, fldv_5_1, fds_5_1, cnt_5, wi_iload_n, wi_bipush, wi_imul, wi_iadd, wi_baload, wi_ireturn, cnt_18, aTy_18, aLn_18, arr_18, bsv_18, no0, no1, nz1, nz2, nz3, nz4, nz5, nz7, nz8, Classical.not_not, bz0, bz1, wi_nil, ld_0, ld_s, isIv_I, isLv_L, isRv_R, true_and, and_true, lset_0, lset_1, lset_s, avw_I, avw_L, avw_R, clr_cons, clr_nil, kst_0, kst_1, kstL_0, kstL_1, addk_I, pA_0, pA_s, pD_0, pD_s, wid_nil, wid_cons, rcv_c, putv_I, putv_L, List.length_cons, List.length_nil, List.set_cons_zero, List.set_cons_succ, not_false_eq_true, Nat.reduceMod, Nat.reduceDiv, Nat.reduceEqDiff, Nat.reduceLT, Nat.reduceLeDiff, Nat.reduceAdd, Nat.reduceSub, reduceIte, Nat.lt_irrefl, Nat.zero_ne_one, Nat.one_ne_zero, Nat.zero_add, List.nil_append, List.cons_append, Option.toList_some, Option.toList_none, forall_const, false_implies, true_implies, false_or, or_false, true_or, or_true]
  rw [pk_mul, nI_add, i_cl (by omega), show r * 60 + i = 60 * r + i by omega, h.2.2 i hi]
  exact ⟨i_in (by omega) (by decide), q⟩
theorem c_Rwrite {r i : Nat} {v : Int32} (hr : r < 6) (hi : i < 40) (q : P none (sA S 16 0 (upd (gA S 16 0) (40 * r + i) v))) : wpM (d + 1) mX4_write [aR 3 0, aI (nI r), aI (nI i), aI v] S P := by
  refine x_entry (ls2 := [aR 3 0, aI (nI r), aI (nI i), aI v]) (Nat.le_of_ble_eq_true rfl) pl_4 rfl (Nat.le_of_ble_eq_true rfl) ?_
  refine s_X4_write_0 ?_
  simp only [B_X4_write_0, wi_aload_n, wi_getfield, fldv_3_1, fds_3_1, cnt_3, wi_iload_n, wi_bipush, wi_imul, wi_iadd, wi_iastore, wi_return_, cnt_16, aTy_16, aLn_16, arr_16, no0, no1, nz1, nz2, nz3, nz4, nz5, nz7, nz8, Classical.not_not, bz0, bz1, wi_nil, ld_0, ld_s, isIv_I, isLv_L, isRv_R, true_and, and_true, lset_0, lset_1, lset_s, avw_I, avw_L, avw_R, clr_cons, clr_nil, kst_0, kst_1, kstL_0, kstL_1, addk_I, pA_0, pA_s, pD_0, pD_s, wid_nil, wid_cons, rcv_c, putv_I, putv_L, List.length_cons, List.length_nil, List.set_cons_zero, List.set_cons_succ, not_false_eq_true, Nat.reduceMod, Nat.reduceDiv, Nat.reduceEqDiff, Nat.reduceLT, Nat.reduceLeDiff, Nat.reduceAdd, Nat.reduceSub, reduceIte, Nat.lt_irrefl, Nat.zero_ne_one, Nat.one_ne_zero, Nat.zero_add, List.nil_append, List.cons_append, Option.toList_some, Option.toList_none, forall_const, false_implies, true_implies, false_or, or_false, true_or, or_true]
  rw [pk_mul, nI_add, i_cl (by omega), show r * 40 + i = 40 * r + i by omega]
  exact ⟨i_in (by omega) (by decide), q⟩
theorem c_Twrite {r i : Nat} {v : Int32} (hr : r < 4) (hi : i < 60) (q : P none (sA S 18 0 (upd (gA S 18 0) (60 * r + i) v.toInt8.toInt32))) : wpM (d + 1) mX6_write [aR 5 0, aI (nI r), aI (nI i), aI v] S P := by
  refine x_entry (ls2 := [aR 5 0, aI (nI r), aI (nI i), aI v]) (Nat.le_of_ble_eq_true rfl) pl_6 rfl (Nat.le_of_ble_eq_true rfl) ?_
  refine s_X6_write_0 ?_
  simp only [B_X6_write_0, wi_aload_n, wi_getfield, fldv_5_1, fds_5_1, cnt_5, wi_iload_n, wi_bipush, wi_imul, wi_iadd, wi_i2b, wi_bastore, wi_return_, cnt_18, aTy_18, aLn_18, arr_18, bsv_18, no0, no1, nz1, nz2, nz3, nz4, nz5, nz7, nz8, Classical.not_not, bz0, bz1, wi_nil, ld_0, ld_s, isIv_I, isLv_L, isRv_R, true_and, and_true, lset_0, lset_1, lset_s, avw_I, avw_L, avw_R, clr_cons, clr_nil, kst_0, kst_1, kstL_0, kstL_1, addk_I, pA_0, pA_s, pD_0, pD_s, wid_nil, wid_cons, rcv_c, putv_I, putv_L, List.length_cons, List.length_nil, List.set_cons_zero, List.set_cons_succ, not_false_eq_true, Nat.reduceMod, Nat.reduceDiv, Nat.reduceEqDiff, Nat.reduceLT, Nat.reduceLeDiff, Nat.reduceAdd, Nat.reduceSub, reduceIte, Nat.lt_irrefl, Nat.zero_ne_one, Nat.one_ne_zero, Nat.zero_add, List.nil_append, List.cons_append, Option.toList_some, Option.toList_none, forall_const, false_implies, true_implies, false_or, or_false, true_or, or_true]
  rw [pk_mul, nI_add, i_cl (by omega), show r * 60 + i = 60 * r + i by omega, pk_vb]
  exact ⟨i_in (by omega) (by decide), q⟩
theorem c_Rremove {r : Nat} (hr : r < 6) (q : P none (sA S 15 0 (upd (gA S 15 0) r (-nI 1)))) : wpM (d + 1) mX4_remove [aR 3 0, aI (nI r)] S P := by
  refine x_entry (ls2 := [aR 3 0, aI (nI r)]) (Nat.le_of_ble_eq_true rfl) pl_4 rfl (Nat.le_of_ble_eq_true rfl) ?_
  refine s_X4_remove_0 ?_
  simp only [B_X4_remove_0, wi_aload_n, wi_getfield, fldv_3_0, fds_3_0, cnt_3, wi_iload_n, wi_iconst, wi_iastore, wi_return_, cnt_15, aTy_15, aLn_15, arr_15, no0, no1, nz1, nz2, nz3, nz4, nz5, nz7, nz8, Classical.not_not, bz0, bz1, wi_nil, ld_0, ld_s, isIv_I, isLv_L, isRv_R, true_and, and_true, lset_0, lset_1, lset_s, avw_I, avw_L, avw_R, clr_cons, clr_nil, kst_0, kst_1, kstL_0, kstL_1, addk_I, pA_0, pA_s, pD_0, pD_s, wid_nil, wid_cons, rcv_c, putv_I, putv_L, List.length_cons, List.length_nil, List.set_cons_zero, List.set_cons_succ, not_false_eq_true, Nat.reduceMod, Nat.reduceDiv, Nat.reduceEqDiff, Nat.reduceLT, Nat.reduceLeDiff, Nat.reduceAdd, Nat.reduceSub, reduceIte, Nat.lt_irrefl, Nat.zero_ne_one, Nat.one_ne_zero, Nat.zero_add, List.nil_append, List.cons_append, Option.toList_some, Option.toList_none, forall_const, false_implies, true_implies, false_or, or_false, true_or, or_true]
  rw [i_cl (by omega)]
  exact ⟨i_in hr (by decide), q⟩
theorem c_Rmake {r n : Nat} (hr : r < 6) (hn : n ≤ 40) (q : P none (sA (sA S 15 0 (upd (gA S 15 0) r (nI n))) 16 0 (fil (gA S 16 0) (40 * r) (40 * r + n) (nI 0)))) : wpM (d + 3) mX4_make [aR 3 0, aI (nI r), aI (nI n)] S P := by
  refine x_entry (ls2 := [aR 3 0, aI (nI r), aI (nI n)]) (Nat.le_of_ble_eq_true rfl) pl_4 rfl (Nat.le_of_ble_eq_true rfl) ?_
  refine s_X4_make_0 ?_
  simp only [B_X4_make_0, wi_aload_n, wi_getfield, fldv_3_0, fds_3_0, cnt_3, wi_iload_n, wi_iastore, fldv_3_1, fds_3_1, wi_bipush, wi_imul, wi_iadd, wi_iconst, wi_invokestatic, cnt_15, aTy_15, aLn_15, arr_15, cnt_16, aTy_16, aLn_16, arr_16, no0, no1, nz1, nz2, nz3, nz4, nz5, nz7, nz8, Classical.not_not, bz0, bz1, wi_nil, ld_0, ld_s, isIv_I, isLv_L, isRv_R, true_and, and_true, lset_0, lset_1, lset_s, avw_I, avw_L, avw_R, clr_cons, clr_nil, kst_0, kst_1, kstL_0, kstL_1, addk_I, pA_0, pA_s, pD_0, pD_s, wid_nil, wid_cons, rcv_c, putv_I, putv_L, List.length_cons, List.length_nil, List.set_cons_zero, List.set_cons_succ, not_false_eq_true, Nat.reduceMod, Nat.reduceDiv, Nat.reduceEqDiff, Nat.reduceLT, Nat.reduceLeDiff, Nat.reduceAdd, Nat.reduceSub, reduceIte, Nat.lt_irrefl, Nat.zero_ne_one, Nat.one_ne_zero, Nat.zero_add, List.nil_append, List.cons_append, Option.toList_some, Option.toList_none, forall_const, false_implies, true_implies, false_or, or_false, true_or, or_true]
  rw [pk_mul, nI_add, i_cl (by omega), show r * 40 = 40 * r by omega]
  refine ⟨i_in hr (by decide), ?_⟩
  refine c_fill (by decide) rfl (by decide) (by omega) (by show 40 * r + n ≤ 240; omega) ?_
  refine s_X4_make_25 ?_
  simp only [B_X4_make_25, wi_return_, no0, no1, nz1, nz2, nz3, nz4, nz5, nz7, nz8, Classical.not_not, bz0, bz1, wi_nil, ld_0, ld_s, isIv_I, isLv_L, isRv_R, true_and, and_true, lset_0, lset_1, lset_s, avw_I, avw_L, avw_R, clr_cons, clr_nil, kst_0, kst_1, kstL_0, kstL_1, addk_I, pA_0, pA_s, pD_0, pD_s, wid_nil, wid_cons, rcv_c, putv_I, putv_L, List.length_cons, List.length_nil, List.set_cons_zero, List.set_cons_succ, not_false_eq_true, Nat.reduceMod, Nat.reduceDiv, Nat.reduceEqDiff, Nat.reduceLT, Nat.reduceLeDiff, Nat.reduceAdd, Nat.reduceSub, reduceIte, Nat.lt_irrefl, Nat.zero_ne_one, Nat.one_ne_zero, Nat.zero_add, List.nil_append, List.cons_append, Option.toList_some, Option.toList_none, forall_const, false_implies, true_implies, false_or, or_false, true_or, or_true]
  exact q
theorem l_fillb {t k i : Nat} {v : Int32} (hk : i < cnt k ∧ k < 60) (hy : aTy k = 1) (hb : bsv k v = v) (ht : t ≤ aLn k) (hl : aLn k < 3000) : ∀ (n f : Nat) (S : MS), f + n = t → P none (sA S k i (fil (gA S k i) f t v)) → wpX d mJ7_fill_eb02e 10 [aR k i, aU, aI (nI t), aI v, aI (nI f)] [] S P := by
  have h99 : ¬ k = 99 := by omega
  have hy2 : aTy k = 1 ∨ aTy k = 2 := Or.inl hy
  intro n
  induction n with
  | zero =>
    intro f S hf q
    refine s_J7_fill_eb02e_10 ?_
    simp only [B_J7_fill_eb02e_10, wi_iload, wi_iload_n, wi_icmp_ge, wi_aload_n, wi_bastore, wi_iinc, wi_goto, no0, no1, nz1, nz2, nz3, nz4, nz5, nz7, nz8, Classical.not_not, bz0, bz1, wi_nil, ld_0, ld_s, isIv_I, isLv_L, isRv_R, true_and, and_true, lset_0, lset_1, lset_s, avw_I, avw_L, avw_R, clr_cons, clr_nil, kst_0, kst_1, kstL_0, kstL_1, addk_I, pA_0, pA_s, pD_0, pD_s, wid_nil, wid_cons, rcv_c, putv_I, putv_L, List.length_cons, List.length_nil, List.set_cons_zero, List.set_cons_succ, not_false_eq_true, Nat.reduceMod, Nat.reduceDiv, Nat.reduceEqDiff, Nat.reduceLT, Nat.reduceLeDiff, Nat.reduceAdd, Nat.reduceSub, reduceIte, Nat.lt_irrefl, Nat.zero_ne_one, Nat.one_ne_zero, Nat.zero_add, List.nil_append, List.cons_append, Option.toList_some, Option.toList_none, forall_const, false_implies, true_implies, false_or, or_false, true_or, or_true, hk, h99]
    rw [i_le (by omega) (by omega)]
    refine ⟨fun _ => ?_, fun h => absurd (by omega) h⟩
    refine s_J7_fill_eb02e_27 ?_
    simp only [B_J7_fill_eb02e_27, wi_return_, no0, no1, nz1, nz2, nz3, nz4, nz5, nz7, nz8, Classical.not_not, bz0, bz1, wi_nil, ld_0, ld_s, isIv_I, isLv_L, isRv_R, true_and, and_true, lset_0, lset_1, lset_s, avw_I, avw_L, avw_R, clr_cons, clr_nil, kst_0, kst_1, kstL_0, kstL_1, addk_I, pA_0, pA_s, pD_0, pD_s, wid_nil, wid_cons, rcv_c, putv_I, putv_L, List.length_cons, List.length_nil, List.set_cons_zero, List.set_cons_succ, not_false_eq_true, Nat.reduceMod, Nat.reduceDiv, Nat.reduceEqDiff, Nat.reduceLT, Nat.reduceLeDiff, Nat.reduceAdd, Nat.reduceSub, reduceIte, Nat.lt_irrefl, Nat.zero_ne_one, Nat.one_ne_zero, Nat.zero_add, List.nil_append, List.cons_append, Option.toList_some, Option.toList_none, forall_const, false_implies, true_implies, false_or, or_false, true_or, or_true]
    rw [show f = t by omega, fil_0, sA_self] at q
    exact q
  | succ n ih =>
    intro f S hf q
    refine s_J7_fill_eb02e_10 ?_
    simp only [B_J7_fill_eb02e_10, wi_iload, wi_iload_n, wi_icmp_ge, wi_aload_n, wi_bastore, wi_iinc, wi_goto, no0, no1, nz1, nz2, nz3, nz4, nz5, nz7, nz8, Classical.not_not, bz0, bz1, wi_nil, ld_0, ld_s, isIv_I, isLv_L, isRv_R, true_and, and_true, lset_0, lset_1, lset_s, avw_I, avw_L, avw_R, clr_cons, clr_nil, kst_0, kst_1, kstL_0, kstL_1, addk_I, pA_0, pA_s, pD_0, pD_s, wid_nil, wid_cons, rcv_c, putv_I, putv_L, List.length_cons, List.length_nil, List.set_cons_zero, List.set_cons_succ, not_false_eq_true, Nat.reduceMod, Nat.reduceDiv, Nat.reduceEqDiff, Nat.reduceLT, Nat.reduceLeDiff, Nat.reduceAdd, Nat.reduceSub, reduceIte, Nat.lt_irrefl, Nat.zero_ne_one, Nat.one_ne_zero, Nat.zero_add, List.nil_append, List.cons_append, Option.toList_some, Option.toList_none, forall_const, false_implies, true_implies, false_or, or_false, true_or, or_true, hk, h99]
    rw [i_le (by omega) (by omega), nI_add, i_cl (by omega), hb]
    refine ⟨fun h => absurd h (by omega), fun _ => ⟨hy2, i_in (by omega) (by omega), ih (f + 1) _ (by omega) ?_⟩⟩
    rw [gA_same, sA_sA, fil_upd (by omega)]
    exact q
theorem c_fillb {f t k i : Nat} {v : Int32} (hk : i < cnt k ∧ k < 60) (hy : aTy k = 1) (hb : bsv k v = v) (hl : aLn k < 3000) (hf : f ≤ t) (ht : t ≤ aLn k) (q : P none (sA S k i (fil (gA S k i) f t v))) : wpM (d + 2) mJ7_fill_eb02e [aR k i, aI (nI f), aI (nI t), aI v] S P := by
  have h99 : ¬ k = 99 := by omega
  have hy3 : aTy k < 3 := by omega
  refine x_entry (ls2 := [aR k i, aI (nI f), aI (nI t), aI v, aU]) (Nat.le_of_ble_eq_true rfl) pl_13 rfl (Nat.le_of_ble_eq_true rfl) ?_
  refine s_J7_fill_eb02e_0 ?_
  simp only [B_J7_fill_eb02e_0, wi_aload_n, wi_arraylength, wi_iload_n, wi_invokestatic, no0, no1, nz1, nz2, nz3, nz4, nz5, nz7, nz8, Classical.not_not, bz0, bz1, wi_nil, ld_0, ld_s, isIv_I, isLv_L, isRv_R, true_and, and_true, lset_0, lset_1, lset_s, avw_I, avw_L, avw_R, clr_cons, clr_nil, kst_0, kst_1, kstL_0, kstL_1, addk_I, pA_0, pA_s, pD_0, pD_s, wid_nil, wid_cons, rcv_c, putv_I, putv_L, List.length_cons, List.length_nil, List.set_cons_zero, List.set_cons_succ, not_false_eq_true, Nat.reduceMod, Nat.reduceDiv, Nat.reduceEqDiff, Nat.reduceLT, Nat.reduceLeDiff, Nat.reduceAdd, Nat.reduceSub, reduceIte, Nat.lt_irrefl, Nat.zero_ne_one, Nat.one_ne_zero, Nat.zero_add, List.nil_append, List.cons_append, Option.toList_some, Option.toList_none, forall_const, false_implies, true_implies, false_or, or_false, true_or, or_true, hk, hy3, h99]
  refine c_range hf ht hl ?_
  refine s_J7_fill_eb02e_7 ?_
  simp only [B_J7_fill_eb02e_7, wi_iload_n, wi_istore, no0, no1, nz1, nz2, nz3, nz4, nz5, nz7, nz8, Classical.not_not, bz0, bz1, wi_nil, ld_0, ld_s, isIv_I, isLv_L, isRv_R, true_and, and_true, lset_0, lset_1, lset_s, avw_I, avw_L, avw_R, clr_cons, clr_nil, kst_0, kst_1, kstL_0, kstL_1, addk_I, pA_0, pA_s, pD_0, pD_s, wid_nil, wid_cons, rcv_c, putv_I, putv_L, List.length_cons, List.length_nil, List.set_cons_zero, List.set_cons_succ, not_false_eq_true, Nat.reduceMod, Nat.reduceDiv, Nat.reduceEqDiff, Nat.reduceLT, Nat.reduceLeDiff, Nat.reduceAdd, Nat.reduceSub, reduceIte, Nat.lt_irrefl, Nat.zero_ne_one, Nat.one_ne_zero, Nat.zero_add, List.nil_append, List.cons_append, Option.toList_some, Option.toList_none, forall_const, false_implies, true_implies, false_or, or_false, true_or, or_true, h99]
  exact l_fillb hk hy hb ht hl (t - f) f S (by omega) q
theorem c_Tmake {r n : Nat} (hr : r < 4) (hn : n ≤ 60) (q : P none (sA (sA S 17 0 (upd (gA S 17 0) r (nI n))) 18 0 (fil (gA S 18 0) (60 * r) (60 * r + n) (nI 32)))) : wpM (d + 3) mX6_make [aR 5 0, aI (nI r), aI (nI n)] S P := by
  refine x_entry (ls2 := [aR 5 0, aI (nI r), aI (nI n)]) (Nat.le_of_ble_eq_true rfl) pl_6 rfl (Nat.le_of_ble_eq_true rfl) ?_
  refine s_X6_make_0 ?_
  simp only [B_X6_make_0, wi_aload_n, wi_getfield, fldv_5_0, fds_5_0, cnt_5, wi_iload_n, wi_iastore, fldv_5_1, fds_5_1, wi_bipush, wi_imul, wi_iadd, wi_invokestatic, cnt_17, aTy_17, aLn_17, arr_17, cnt_18, aTy_18, aLn_18, arr_18, bsv_18, no0, no1, nz1, nz2, nz3, nz4, nz5, nz7, nz8, Classical.not_not, bz0, bz1, wi_nil, ld_0, ld_s, isIv_I, isLv_L, isRv_R, true_and, and_true, lset_0, lset_1, lset_s, avw_I, avw_L, avw_R, clr_cons, clr_nil, kst_0, kst_1, kstL_0, kstL_1, addk_I, pA_0, pA_s, pD_0, pD_s, wid_nil, wid_cons, rcv_c, putv_I, putv_L, List.length_cons, List.length_nil, List.set_cons_zero, List.set_cons_succ, not_false_eq_true, Nat.reduceMod, Nat.reduceDiv, Nat.reduceEqDiff, Nat.reduceLT, Nat.reduceLeDiff, Nat.reduceAdd, Nat.reduceSub, reduceIte, Nat.lt_irrefl, Nat.zero_ne_one, Nat.one_ne_zero, Nat.zero_add, List.nil_append, List.cons_append, Option.toList_some, Option.toList_none, forall_const, false_implies, true_implies, false_or, or_false, true_or, or_true]
  rw [pk_mul, nI_add, i_cl (by omega), show r * 60 = 60 * r by omega]
  refine ⟨i_in hr (by decide), ?_⟩
  refine c_fillb (by decide) rfl (by decide +kernel) (by decide) (by omega) (by show 60 * r + n ≤ 240; omega) ?_
  refine s_X6_make_26 ?_
  simp only [B_X6_make_26, wi_return_, no0, no1, nz1, nz2, nz3, nz4, nz5, nz7, nz8, Classical.not_not, bz0, bz1, wi_nil, ld_0, ld_s, isIv_I, isLv_L, isRv_R, true_and, and_true, lset_0, lset_1, lset_s, avw_I, avw_L, avw_R, clr_cons, clr_nil, kst_0, kst_1, kstL_0, kstL_1, addk_I, pA_0, pA_s, pD_0, pD_s, wid_nil, wid_cons, rcv_c, putv_I, putv_L, List.length_cons, List.length_nil, List.set_cons_zero, List.set_cons_succ, not_false_eq_true, Nat.reduceMod, Nat.reduceDiv, Nat.reduceEqDiff, Nat.reduceLT, Nat.reduceLeDiff, Nat.reduceAdd, Nat.reduceSub, reduceIte, Nat.lt_irrefl, Nat.zero_ne_one, Nat.one_ne_zero, Nat.zero_add, List.nil_append, List.cons_append, Option.toList_some, Option.toList_none, forall_const, false_implies, true_implies, false_or, or_false, true_or, or_true]
  exact q
theorem c_Rmove {r i t j n : Nat} (hr : r < 6) (ht : t < 6) (hi : i + n ≤ 40) (hj : j + n ≤ 40) (q : P none (sA S 16 0 (va_cpy (gA S 16 0) (gA S 16 0) (40 * r + i) (40 * t + j) n))) : wpM (d + 1) mX4_move [aR 3 0, aI (nI r), aI (nI i), aI (nI t), aI (nI j), aI (nI n)] S P := by
  refine x_entry (ls2 := [aR 3 0, aI (nI r), aI (nI i), aI (nI t), aI (nI j), aI (nI n)]) (Nat.le_of_ble_eq_true rfl) pl_4 rfl (Nat.le_of_ble_eq_true rfl) ?_
  refine s_X4_move_0 ?_
  simp only [B_X4_move_0, wi_aload_n, wi_getfield, fldv_3_1, fds_3_1, cnt_3, wi_iload_n, wi_bipush, wi_imul, wi_iadd, wi_iload, wi_arraycopy, wi_return_, cnt_16, aTy_16, aLn_16, arr_16, no0, no1, nz1, nz2, nz3, nz4, nz5, nz7, nz8, Classical.not_not, bz0, bz1, wi_nil, ld_0, ld_s, isIv_I, isLv_L, isRv_R, true_and, and_true, lset_0, lset_1, lset_s, avw_I, avw_L, avw_R, clr_cons, clr_nil, kst_0, kst_1, kstL_0, kstL_1, addk_I, pA_0, pA_s, pD_0, pD_s, wid_nil, wid_cons, rcv_c, putv_I, putv_L, List.length_cons, List.length_nil, List.set_cons_zero, List.set_cons_succ, not_false_eq_true, Nat.reduceMod, Nat.reduceDiv, Nat.reduceEqDiff, Nat.reduceLT, Nat.reduceLeDiff, Nat.reduceAdd, Nat.reduceSub, reduceIte, Nat.lt_irrefl, Nat.zero_ne_one, Nat.one_ne_zero, Nat.zero_add, List.nil_append, List.cons_append, Option.toList_some, Option.toList_none, forall_const, false_implies, true_implies, false_or, or_false, true_or, or_true]
  rw [pk_mul, pk_mul, nI_add, nI_add, i_cl (by omega), i_cl (by omega), i_cl (by omega), show r * 40 + i = 40 * r + i by omega, show t * 40 + j = 40 * t + j by omega]
  exact ⟨⟨nI_pos (by omega), nI_pos (by omega), nI_pos (by omega), by omega, by omega⟩, q⟩
def tct (rs : Nat → Nat) (n : Nat) : Nat := fb_sm (fun r => if rs r = 0 then 0 else 1) n
theorem tct_le {rs : Nat → Nat} {n : Nat} : tct rs n ≤ n * 1 := fb_sm_bound (fun k _ => by split <;> omega)
theorem l_Rmany (ht : Tb S 15 16 6 40 rs rc) (q : P (some (aI (nI (tct rs 6)))) S) : ∀ (n r : Nat), r + n = 6 → wpX (d + 1) mX4_howMany 4 [aR 3 0, aI (nI (tct rs r)), aI (nI r)] [] S P := by
  intro n
  induction n with
  | zero =>
    intro r hr
    have e : r = 6 := by omega
    subst e
    refine s_X4_howMany_4 ?_
    simp only [B_X4_howMany_4, wi_iload_n, wi_bipush, wi_icmp_ge, wi_aload_n, wi_invokevirtual, cnt_3, no0, no1, nz1, nz2, nz3, nz4, nz5, nz7, nz8, Classical.not_not, bz0, bz1, wi_nil, ld_0, ld_s, isIv_I, isLv_L, isRv_R, true_and, and_true, lset_0, lset_1, lset_s, avw_I, avw_L, avw_R, clr_cons, clr_nil, kst_0, kst_1, kstL_0, kstL_1, addk_I, pA_0, pA_s, pD_0, pD_s, wid_nil, wid_cons, rcv_c, putv_I, putv_L, List.length_cons, List.length_nil, List.set_cons_zero, List.set_cons_succ, not_false_eq_true, Nat.reduceMod, Nat.reduceDiv, Nat.reduceEqDiff, Nat.reduceLT, Nat.reduceLeDiff, Nat.reduceAdd, Nat.reduceSub, reduceIte, Nat.lt_irrefl, Nat.zero_ne_one, Nat.one_ne_zero, Nat.zero_add, List.nil_append, List.cons_append, Option.toList_some, Option.toList_none, forall_const, false_implies, true_implies, false_or, or_false, true_or, or_true]
    refine ⟨fun _ => ?_, fun h => absurd (by decide) h⟩
    refine s_X4_howMany_32 ?_
    simp only [B_X4_howMany_32, wi_iload_n, wi_ireturn, no0, no1, nz1, nz2, nz3, nz4, nz5, nz7, nz8, Classical.not_not, bz0, bz1, wi_nil, ld_0, ld_s, isIv_I, isLv_L, isRv_R, true_and, and_true, lset_0, lset_1, lset_s, avw_I, avw_L, avw_R, clr_cons, clr_nil, kst_0, kst_1, kstL_0, kstL_1, addk_I, pA_0, pA_s, pD_0, pD_s, wid_nil, wid_cons, rcv_c, putv_I, putv_L, List.length_cons, List.length_nil, List.set_cons_zero, List.set_cons_succ, not_false_eq_true, Nat.reduceMod, Nat.reduceDiv, Nat.reduceEqDiff, Nat.reduceLT, Nat.reduceLeDiff, Nat.reduceAdd, Nat.reduceSub, reduceIte, Nat.lt_irrefl, Nat.zero_ne_one, Nat.one_ne_zero, Nat.zero_add, List.nil_append, List.cons_append, Option.toList_some, Option.toList_none, forall_const, false_implies, true_implies, false_or, or_false, true_or, or_true]
    exact q
  | succ n ih =>
    intro r hr
    have hle := tct_le (rs := rs) (n := r)
    refine s_X4_howMany_4 ?_
    simp only [B_X4_howMany_4, wi_iload_n, wi_bipush, wi_icmp_ge, wi_aload_n, wi_invokevirtual, cnt_3, no0, no1, nz1, nz2, nz3, nz4, nz5, nz7, nz8, Classical.not_not, bz0, bz1, wi_nil, ld_0, ld_s, isIv_I, isLv_L, isRv_R, true_and, and_true, lset_0, lset_1, lset_s, avw_I, avw_L, avw_R, clr_cons, clr_nil, kst_0, kst_1, kstL_0, kstL_1, addk_I, pA_0, pA_s, pD_0, pD_s, wid_nil, wid_cons, rcv_c, putv_I, putv_L, List.length_cons, List.length_nil, List.set_cons_zero, List.set_cons_succ, not_false_eq_true, Nat.reduceMod, Nat.reduceDiv, Nat.reduceEqDiff, Nat.reduceLT, Nat.reduceLeDiff, Nat.reduceAdd, Nat.reduceSub, reduceIte, Nat.lt_irrefl, Nat.zero_ne_one, Nat.one_ne_zero, Nat.zero_add, List.nil_append, List.cons_append, Option.toList_some, Option.toList_none, forall_const, false_implies, true_implies, false_or, or_false, true_or, or_true]
    rw [i_le (by omega) (by omega)]
    refine ⟨fun h => absurd h (by omega), fun _ => ?_⟩
    refine c_Rthere ht (by omega) ?_
    refine s_X4_howMany_16 ?_
    simp only [B_X4_howMany_16, wi_if_eq, wi_iconst, wi_goto, no0, no1, nz1, nz2, nz3, nz4, nz5, nz7, nz8, Classical.not_not, bz0, bz1, wi_nil, ld_0, ld_s, isIv_I, isLv_L, isRv_R, true_and, and_true, lset_0, lset_1, lset_s, avw_I, avw_L, avw_R, clr_cons, clr_nil, kst_0, kst_1, kstL_0, kstL_1, addk_I, pA_0, pA_s, pD_0, pD_s, wid_nil, wid_cons, rcv_c, putv_I, putv_L, List.length_cons, List.length_nil, List.set_cons_zero, List.set_cons_succ, not_false_eq_true, Nat.reduceMod, Nat.reduceDiv, Nat.reduceEqDiff, Nat.reduceLT, Nat.reduceLeDiff, Nat.reduceAdd, Nat.reduceSub, reduceIte, Nat.lt_irrefl, Nat.zero_ne_one, Nat.one_ne_zero, Nat.zero_add, List.nil_append, List.cons_append, Option.toList_some, Option.toList_none, forall_const, false_implies, true_implies, false_or, or_false, true_or, or_true]
    have last : ∀ v, v = (if rs r = 0 then 0 else 1) → wpX (d + 1) mX4_howMany 24 [aR 3 0, aU, aI (nI r)] [aI (nI v), aI (nI (tct rs r))] S P := by
      intro v hv
      refine s_X4_howMany_24 ?_
      simp only [B_X4_howMany_24, wi_iadd, wi_istore_n, wi_iinc, wi_goto, no0, no1, nz1, nz2, nz3, nz4, nz5, nz7, nz8, Classical.not_not, bz0, bz1, wi_nil, ld_0, ld_s, isIv_I, isLv_L, isRv_R, true_and, and_true, lset_0, lset_1, lset_s, avw_I, avw_L, avw_R, clr_cons, clr_nil, kst_0, kst_1, kstL_0, kstL_1, addk_I, pA_0, pA_s, pD_0, pD_s, wid_nil, wid_cons, rcv_c, putv_I, putv_L, List.length_cons, List.length_nil, List.set_cons_zero, List.set_cons_succ, not_false_eq_true, Nat.reduceMod, Nat.reduceDiv, Nat.reduceEqDiff, Nat.reduceLT, Nat.reduceLeDiff, Nat.reduceAdd, Nat.reduceSub, reduceIte, Nat.lt_irrefl, Nat.zero_ne_one, Nat.one_ne_zero, Nat.zero_add, List.nil_append, List.cons_append, Option.toList_some, Option.toList_none, forall_const, false_implies, true_implies, false_or, or_false, true_or, or_true]
      rw [nI_add, nI_add, hv]
      exact ih (r + 1) (by omega)
    rw [i_eq0 (by split <;> decide)]
    refine ⟨fun h => ?_, fun h => last 1 ?_⟩
    · refine s_X4_howMany_23 ?_
      simp only [B_X4_howMany_23, wi_iconst, no0, no1, nz1, nz2, nz3, nz4, nz5, nz7, nz8, Classical.not_not, bz0, bz1, wi_nil, ld_0, ld_s, isIv_I, isLv_L, isRv_R, true_and, and_true, lset_0, lset_1, lset_s, avw_I, avw_L, avw_R, clr_cons, clr_nil, kst_0, kst_1, kstL_0, kstL_1, addk_I, pA_0, pA_s, pD_0, pD_s, wid_nil, wid_cons, rcv_c, putv_I, putv_L, List.length_cons, List.length_nil, List.set_cons_zero, List.set_cons_succ, not_false_eq_true, Nat.reduceMod, Nat.reduceDiv, Nat.reduceEqDiff, Nat.reduceLT, Nat.reduceLeDiff, Nat.reduceAdd, Nat.reduceSub, reduceIte, Nat.lt_irrefl, Nat.zero_ne_one, Nat.one_ne_zero, Nat.zero_add, List.nil_append, List.cons_append, Option.toList_some, Option.toList_none, forall_const, false_implies, true_implies, false_or, or_false, true_or, or_true]
      exact last 0 h.symm
    · split at h
      · exact absurd rfl h
      · rename_i h2; rw [if_neg h2]
theorem c_Rmany (ht : Tb S 15 16 6 40 rs rc) (q : P (some (aI (nI (tct rs 6)))) S) : wpM (d + 2) mX4_howMany [aR 3 0] S P := by
  refine x_entry (ls2 := [aR 3 0, aU, aU]) (Nat.le_of_ble_eq_true rfl) pl_4 rfl (Nat.le_of_ble_eq_true rfl) ?_
  refine s_X4_howMany_0 ?_
  simp only [B_X4_howMany_0, wi_iconst, wi_istore_n, no0, no1, nz1, nz2, nz3, nz4, nz5, nz7, nz8, Classical.not_not, bz0, bz1, wi_nil, ld_0, ld_s, isIv_I, isLv_L, isRv_R, true_and, and_true, lset_0, lset_1, lset_s, avw_I, avw_L, avw_R, clr_cons, clr_nil, kst_0, kst_1, kstL_0, kstL_1, addk_I, pA_0, pA_s, pD_0, pD_s, wid_nil, wid_cons, rcv_c, putv_I, putv_L, List.length_cons, List.length_nil, List.set_cons_zero, List.set_cons_succ, not_false_eq_true, Nat.reduceMod, Nat.reduceDiv, Nat.reduceEqDiff, Nat.reduceLT, Nat.reduceLeDiff, Nat.reduceAdd, Nat.reduceSub, reduceIte, Nat.lt_irrefl, Nat.zero_ne_one, Nat.one_ne_zero, Nat.zero_add, List.nil_append, List.cons_append, Option.toList_some, Option.toList_none, forall_const, false_implies, true_implies, false_or, or_false, true_or, or_true]
  exact l_Rmany ht q 6 0 rfl
theorem l_Tmany (ht : Tb S 17 18 4 60 rs rc) (q : P (some (aI (nI (tct rs 4)))) S) : ∀ (n r : Nat), r + n = 4 → wpX (d + 1) mX6_howMany 4 [aR 5 0, aI (nI (tct rs r)), aI (nI r)] [] S P := by
  intro n
  induction n with
  | zero =>
    intro r hr
    have e : r = 4 := by omega
    subst e
    refine s_X6_howMany_4 ?_
    simp only [B_X6_howMany_4, wi_iload_n, wi_iconst, wi_icmp_ge, wi_aload_n, wi_invokevirtual, cnt_5, no0, no1, nz1, nz2, nz3, nz4, nz5, nz7, nz8, Classical.not_not, bz0, bz1, wi_nil, ld_0, ld_s, isIv_I, isLv_L, isRv_R, true_and, and_true, lset_0, lset_1, lset_s, avw_I, avw_L, avw_R, clr_cons, clr_nil, kst_0, kst_1, kstL_0, kstL_1, addk_I, pA_0, pA_s, pD_0, pD_s, wid_nil, wid_cons, rcv_c, putv_I, putv_L, List.length_cons, List.length_nil, List.set_cons_zero, List.set_cons_succ, not_false_eq_true, Nat.reduceMod, Nat.reduceDiv, Nat.reduceEqDiff, Nat.reduceLT, Nat.reduceLeDiff, Nat.reduceAdd, Nat.reduceSub, reduceIte, Nat.lt_irrefl, Nat.zero_ne_one, Nat.one_ne_zero, Nat.zero_add, List.nil_append, List.cons_append, Option.toList_some, Option.toList_none, forall_const, false_implies, true_implies, false_or, or_false, true_or, or_true]
    refine ⟨fun _ => ?_, fun h => absurd (by decide) h⟩
    refine s_X6_howMany_31 ?_
    simp only [B_X6_howMany_31, wi_iload_n, wi_ireturn, no0, no1, nz1, nz2, nz3, nz4, nz5, nz7, nz8, Classical.not_not, bz0, bz1, wi_nil, ld_0, ld_s, isIv_I, isLv_L, isRv_R, true_and, and_true, lset_0, lset_1, lset_s, avw_I, avw_L, avw_R, clr_cons, clr_nil, kst_0, kst_1, kstL_0, kstL_1, addk_I, pA_0, pA_s, pD_0, pD_s, wid_nil, wid_cons, rcv_c, putv_I, putv_L, List.length_cons, List.length_nil, List.set_cons_zero, List.set_cons_succ, not_false_eq_true, Nat.reduceMod, Nat.reduceDiv, Nat.reduceEqDiff, Nat.reduceLT, Nat.reduceLeDiff, Nat.reduceAdd, Nat.reduceSub, reduceIte, Nat.lt_irrefl, Nat.zero_ne_one, Nat.one_ne_zero, Nat.zero_add, List.nil_append, List.cons_append, Option.toList_some, Option.toList_none, forall_const, false_implies, true_implies, false_or, or_false, true_or, or_true]
    exact q
  | succ n ih =>
    intro r hr
    have hle := tct_le (rs := rs) (n := r)
    refine s_X6_howMany_4 ?_
    simp only [B_X6_howMany_4, wi_iload_n, wi_iconst, wi_icmp_ge, wi_aload_n, wi_invokevirtual, cnt_5, no0, no1, nz1, nz2, nz3, nz4, nz5, nz7, nz8, Classical.not_not, bz0, bz1, wi_nil, ld_0, ld_s, isIv_I, isLv_L, isRv_R, true_and, and_true, lset_0, lset_1, lset_s, avw_I, avw_L, avw_R, clr_cons, clr_nil, kst_0, kst_1, kstL_0, kstL_1, addk_I, pA_0, pA_s, pD_0, pD_s, wid_nil, wid_cons, rcv_c, putv_I, putv_L, List.length_cons, List.length_nil, List.set_cons_zero, List.set_cons_succ, not_false_eq_true, Nat.reduceMod, Nat.reduceDiv, Nat.reduceEqDiff, Nat.reduceLT, Nat.reduceLeDiff, Nat.reduceAdd, Nat.reduceSub, reduceIte, Nat.lt_irrefl, Nat.zero_ne_one, Nat.one_ne_zero, Nat.zero_add, List.nil_append, List.cons_append, Option.toList_some, Option.toList_none, forall_const, false_implies, true_implies, false_or, or_false, true_or, or_true]
    rw [i_le (by omega) (by omega)]
    refine ⟨fun h => absurd h (by omega), fun _ => ?_⟩
    refine c_Tthere ht (by omega) ?_
    refine s_X6_howMany_15 ?_
    simp only [B_X6_howMany_15, wi_if_eq, wi_iconst, wi_goto, no0, no1, nz1, nz2, nz3, nz4, nz5, nz7, nz8, Classical.not_not, bz0, bz1, wi_nil, ld_0, ld_s, isIv_I, isLv_L, isRv_R, true_and, and_true, lset_0, lset_1, lset_s, avw_I, avw_L, avw_R, clr_cons, clr_nil, kst_0, kst_1, kstL_0, kstL_1, addk_I, pA_0, pA_s, pD_0, pD_s, wid_nil, wid_cons, rcv_c, putv_I, putv_L, List.length_cons, List.length_nil, List.set_cons_zero, List.set_cons_succ, not_false_eq_true, Nat.reduceMod, Nat.reduceDiv, Nat.reduceEqDiff, Nat.reduceLT, Nat.reduceLeDiff, Nat.reduceAdd, Nat.reduceSub, reduceIte, Nat.lt_irrefl, Nat.zero_ne_one, Nat.one_ne_zero, Nat.zero_add, List.nil_append, List.cons_append, Option.toList_some, Option.toList_none, forall_const, false_implies, true_implies, false_or, or_false, true_or, or_true]
    have last : ∀ v, v = (if rs r = 0 then 0 else 1) → wpX (d + 1) mX6_howMany 23 [aR 5 0, aU, aI (nI r)] [aI (nI v), aI (nI (tct rs r))] S P := by
      intro v hv
      refine s_X6_howMany_23 ?_
      simp only [B_X6_howMany_23, wi_iadd, wi_istore_n, wi_iinc, wi_goto, no0, no1, nz1, nz2, nz3, nz4, nz5, nz7, nz8, Classical.not_not, bz0, bz1, wi_nil, ld_0, ld_s, isIv_I, isLv_L, isRv_R, true_and, and_true, lset_0, lset_1, lset_s, avw_I, avw_L, avw_R, clr_cons, clr_nil, kst_0, kst_1, kstL_0, kstL_1, addk_I, pA_0, pA_s, pD_0, pD_s, wid_nil, wid_cons, rcv_c, putv_I, putv_L, List.length_cons, List.length_nil, List.set_cons_zero, List.set_cons_succ, not_false_eq_true, Nat.reduceMod, Nat.reduceDiv, Nat.reduceEqDiff, Nat.reduceLT, Nat.reduceLeDiff, Nat.reduceAdd, Nat.reduceSub, reduceIte, Nat.lt_irrefl, Nat.zero_ne_one, Nat.one_ne_zero, Nat.zero_add, List.nil_append, List.cons_append, Option.toList_some, Option.toList_none, forall_const, false_implies, true_implies, false_or, or_false, true_or, or_true]
      rw [nI_add, nI_add, hv]
      exact ih (r + 1) (by omega)
    rw [i_eq0 (by split <;> decide)]
    refine ⟨fun h => ?_, fun h => last 1 ?_⟩
    · refine s_X6_howMany_22 ?_
      simp only [B_X6_howMany_22, wi_iconst, no0, no1, nz1, nz2, nz3, nz4, nz5, nz7, nz8, Classical.not_not, bz0, bz1, wi_nil, ld_0, ld_s, isIv_I, isLv_L, isRv_R, true_and, and_true, lset_0, lset_1, lset_s, avw_I, avw_L, avw_R, clr_cons, clr_nil, kst_0, kst_1, kstL_0, kstL_1, addk_I, pA_0, pA_s, pD_0, pD_s, wid_nil, wid_cons, rcv_c, putv_I, putv_L, List.length_cons, List.length_nil, List.set_cons_zero, List.set_cons_succ, not_false_eq_true, Nat.reduceMod, Nat.reduceDiv, Nat.reduceEqDiff, Nat.reduceLT, Nat.reduceLeDiff, Nat.reduceAdd, Nat.reduceSub, reduceIte, Nat.lt_irrefl, Nat.zero_ne_one, Nat.one_ne_zero, Nat.zero_add, List.nil_append, List.cons_append, Option.toList_some, Option.toList_none, forall_const, false_implies, true_implies, false_or, or_false, true_or, or_true]
      exact last 0 h.symm
    · split at h
      · exact absurd rfl h
      · rename_i h2; rw [if_neg h2]
theorem c_Tmany (ht : Tb S 17 18 4 60 rs rc) (q : P (some (aI (nI (tct rs 4)))) S) : wpM (d + 2) mX6_howMany [aR 5 0] S P := by
  refine x_entry (ls2 := [aR 5 0, aU, aU]) (Nat.le_of_ble_eq_true rfl) pl_6 rfl (Nat.le_of_ble_eq_true rfl) ?_
  refine s_X6_howMany_0 ?_
  simp only [B_X6_howMany_0, wi_iconst, wi_istore_n, no0, no1, nz1, nz2, nz3, nz4, nz5, nz7, nz8, Classical.not_not, bz0, bz1, wi_nil, ld_0, ld_s, isIv_I, isLv_L, isRv_R, true_and, and_true, lset_0, lset_1, lset_s, avw_I, avw_L, avw_R, clr_cons, clr_nil, kst_0, kst_1, kstL_0, kstL_1, addk_I, pA_0, pA_s, pD_0, pD_s, wid_nil, wid_cons, rcv_c, putv_I, putv_L, List.length_cons, List.length_nil, List.set_cons_zero, List.set_cons_succ, not_false_eq_true, Nat.reduceMod, Nat.reduceDiv, Nat.reduceEqDiff, Nat.reduceLT, Nat.reduceLeDiff, Nat.reduceAdd, Nat.reduceSub, reduceIte, Nat.lt_irrefl, Nat.zero_ne_one, Nat.one_ne_zero, Nat.zero_add, List.nil_append, List.cons_append, Option.toList_some, Option.toList_none, forall_const, false_implies, true_implies, false_or, or_false, true_or, or_true]
  exact l_Tmany ht q 4 0 rfl
-- digests of tables
def dg1 (f : Nat → Int32) : Nat → Int64 → Int64
  | 0, h => h
  | n + 1, h => lN 31 * dg1 f n h + (f n).toInt64
def dgT (rs : Nat → Nat) (rc : Nat → Nat → Int32) : Nat → Int64 → Int64
  | 0, h => h
  | r + 1, h => dg1 (rc r) (rs r - 1) (lN 31 * dgT rs rc r h + (szI (rs r)).toInt64)
theorem sz_le {z i : Nat} (hz : z < 1000) (hi : i < 1000) : (szI z ≤ nI i) = (z ≤ i + 1) := by
  rw [Int32.le_iff_toInt_le, sz_toInt hz, nI_toInt (by omega)]
  exact propext (by omega)
theorem l_Rdig1 {r : Nat} {h : Int64} (ht : Tb S 15 16 6 40 rs rc) (hr : r < 6) (q : wpX (d + 1) mX4_digestOn 64 [aR 3 0, aU, aU, aL (dg1 (rc r) (rs r - 1) h), aU, aI (nI r), aU] [] S P) : ∀ (n i : Nat), i + n = rs r - 1 → wpX (d + 1) mX4_digestOn 30 [aR 3 0, aU, aU, aL (dg1 (rc r) i h), aU, aI (nI r), aI (nI i)] [] S P := by
  have hz := ht r hr
  intro n
  induction n with
  | zero =>
    intro i hi
    refine s_X4_digestOn_30 ?_
    simp only [B_X4_digestOn_30, wi_iload, wi_aload_n, wi_getfield, fldv_3_0, fds_3_0, cnt_3, wi_iaload, wi_icmp_ge, wi_ldc2_w, wi_lload_n, wi_lmul, wi_invokevirtual, cnt_15, aTy_15, aLn_15, arr_15, no0, no1, nz1, nz2, nz3, nz4, nz5, nz7, nz8, Classical.not_not, bz0, bz1, wi_nil, ld_0, ld_s, isIv_I, isLv_L, isRv_R, true_and, and_true, lset_0, lset_1, lset_s, avw_I, avw_L, avw_R, clr_cons, clr_nil, kst_0, kst_1, kstL_0, kstL_1, addk_I, pA_0, pA_s, pD_0, pD_s, wid_nil, wid_cons, rcv_c, putv_I, putv_L, List.length_cons, List.length_nil, List.set_cons_zero, List.set_cons_succ, not_false_eq_true, Nat.reduceMod, Nat.reduceDiv, Nat.reduceEqDiff, Nat.reduceLT, Nat.reduceLeDiff, Nat.reduceAdd, Nat.reduceSub, reduceIte, Nat.lt_irrefl, Nat.zero_ne_one, Nat.one_ne_zero, Nat.zero_add, List.nil_append, List.cons_append, Option.toList_some, Option.toList_none, forall_const, false_implies, true_implies, false_or, or_false, true_or, or_true]
    rw [i_cl (by omega), hz.1, sz_le (by omega) (by omega)]
    refine ⟨i_in hr (by decide), fun _ => ?_, fun h => absurd (by omega) h⟩
    rw [show rs r - 1 = i by omega] at q
    exact q
  | succ n ih =>
    intro i hi
    refine s_X4_digestOn_30 ?_
    simp only [B_X4_digestOn_30, wi_iload, wi_aload_n, wi_getfield, fldv_3_0, fds_3_0, cnt_3, wi_iaload, wi_icmp_ge, wi_ldc2_w, wi_lload_n, wi_lmul, wi_invokevirtual, cnt_15, aTy_15, aLn_15, arr_15, no0, no1, nz1, nz2, nz3, nz4, nz5, nz7, nz8, Classical.not_not, bz0, bz1, wi_nil, ld_0, ld_s, isIv_I, isLv_L, isRv_R, true_and, and_true, lset_0, lset_1, lset_s, avw_I, avw_L, avw_R, clr_cons, clr_nil, kst_0, kst_1, kstL_0, kstL_1, addk_I, pA_0, pA_s, pD_0, pD_s, wid_nil, wid_cons, rcv_c, putv_I, putv_L, List.length_cons, List.length_nil, List.set_cons_zero, List.set_cons_succ, not_false_eq_true, Nat.reduceMod, Nat.reduceDiv, Nat.reduceEqDiff, Nat.reduceLT, Nat.reduceLeDiff, Nat.reduceAdd, Nat.reduceSub, reduceIte, Nat.lt_irrefl, Nat.zero_ne_one, Nat.one_ne_zero, Nat.zero_add, List.nil_append, List.cons_append, Option.toList_some, Option.toList_none, forall_const, false_implies, true_implies, false_or, or_false, true_or, or_true]
    rw [i_cl (by omega), hz.1, sz_le (by omega) (by omega)]
    refine ⟨i_in hr (by decide), fun h => absurd h (by omega), fun _ => ?_⟩
    refine c_Rread ht hr (by omega) ?_
    refine s_X4_digestOn_55 ?_
    simp only [B_X4_digestOn_55, wi_i2l, wi_ladd, wi_lstore_n, wi_iinc, wi_goto, no0, no1, nz1, nz2, nz3, nz4, nz5, nz7, nz8, Classical.not_not, bz0, bz1, wi_nil, ld_0, ld_s, isIv_I, isLv_L, isRv_R, true_and, and_true, lset_0, lset_1, lset_s, avw_I, avw_L, avw_R, clr_cons, clr_nil, kst_0, kst_1, kstL_0, kstL_1, addk_I, pA_0, pA_s, pD_0, pD_s, wid_nil, wid_cons, rcv_c, putv_I, putv_L, List.length_cons, List.length_nil, List.set_cons_zero, List.set_cons_succ, not_false_eq_true, Nat.reduceMod, Nat.reduceDiv, Nat.reduceEqDiff, Nat.reduceLT, Nat.reduceLeDiff, Nat.reduceAdd, Nat.reduceSub, reduceIte, Nat.lt_irrefl, Nat.zero_ne_one, Nat.one_ne_zero, Nat.zero_add, List.nil_append, List.cons_append, Option.toList_some, Option.toList_none, forall_const, false_implies, true_implies, false_or, or_false, true_or, or_true]
    rw [nI_add]
    exact ih (i + 1) (by omega)
theorem l_Rdig {h : Int64} (ht : Tb S 15 16 6 40 rs rc) (q : P (some (aL (dgT rs rc 6 h))) S) : ∀ (n r : Nat), r + n = 6 → wpX (d + 1) mX4_digestOn 5 [aR 3 0, aU, aU, aL (dgT rs rc r h), aU, aI (nI r), aU] [] S P := by
  intro n
  induction n with
  | zero =>
    intro r hr
    have e : r = 6 := by omega
    subst e
    refine s_X4_digestOn_5 ?_
    simp only [B_X4_digestOn_5, wi_iload, wi_bipush, wi_icmp_ge, wi_ldc2_w, wi_lload_n, wi_lmul, wi_aload_n, wi_getfield, fldv_3_0, fds_3_0, cnt_3, wi_iaload, wi_i2l, wi_ladd, wi_lstore_n, wi_iconst, wi_istore, cnt_15, aTy_15, aLn_15, arr_15, no0, no1, nz1, nz2, nz3, nz4, nz5, nz7, nz8, Classical.not_not, bz0, bz1, wi_nil, ld_0, ld_s, isIv_I, isLv_L, isRv_R, true_and, and_true, lset_0, lset_1, lset_s, avw_I, avw_L, avw_R, clr_cons, clr_nil, kst_0, kst_1, kstL_0, kstL_1, addk_I, pA_0, pA_s, pD_0, pD_s, wid_nil, wid_cons, rcv_c, putv_I, putv_L, List.length_cons, List.length_nil, List.set_cons_zero, List.set_cons_succ, not_false_eq_true, Nat.reduceMod, Nat.reduceDiv, Nat.reduceEqDiff, Nat.reduceLT, Nat.reduceLeDiff, Nat.reduceAdd, Nat.reduceSub, reduceIte, Nat.lt_irrefl, Nat.zero_ne_one, Nat.one_ne_zero, Nat.zero_add, List.nil_append, List.cons_append, Option.toList_some, Option.toList_none, forall_const, false_implies, true_implies, false_or, or_false, true_or, or_true]
    refine ⟨fun _ => ?_, fun h => absurd (by decide) h⟩
    refine s_X4_digestOn_70 ?_
    simp only [B_X4_digestOn_70, wi_lload_n, wi_lreturn, no0, no1, nz1, nz2, nz3, nz4, nz5, nz7, nz8, Classical.not_not, bz0, bz1, wi_nil, ld_0, ld_s, isIv_I, isLv_L, isRv_R, true_and, and_true, lset_0, lset_1, lset_s, avw_I, avw_L, avw_R, clr_cons, clr_nil, kst_0, kst_1, kstL_0, kstL_1, addk_I, pA_0, pA_s, pD_0, pD_s, wid_nil, wid_cons, rcv_c, putv_I, putv_L, List.length_cons, List.length_nil, List.set_cons_zero, List.set_cons_succ, not_false_eq_true, Nat.reduceMod, Nat.reduceDiv, Nat.reduceEqDiff, Nat.reduceLT, Nat.reduceLeDiff, Nat.reduceAdd, Nat.reduceSub, reduceIte, Nat.lt_irrefl, Nat.zero_ne_one, Nat.one_ne_zero, Nat.zero_add, List.nil_append, List.cons_append, Option.toList_some, Option.toList_none, forall_const, false_implies, true_implies, false_or, or_false, true_or, or_true]
    exact q
  | succ n ih =>
    intro r hr
    refine s_X4_digestOn_5 ?_
    simp only [B_X4_digestOn_5, wi_iload, wi_bipush, wi_icmp_ge, wi_ldc2_w, wi_lload_n, wi_lmul, wi_aload_n, wi_getfield, fldv_3_0, fds_3_0, cnt_3, wi_iaload, wi_i2l, wi_ladd, wi_lstore_n, wi_iconst, wi_istore, cnt_15, aTy_15, aLn_15, arr_15, no0, no1, nz1, nz2, nz3, nz4, nz5, nz7, nz8, Classical.not_not, bz0, bz1, wi_nil, ld_0, ld_s, isIv_I, isLv_L, isRv_R, true_and, and_true, lset_0, lset_1, lset_s, avw_I, avw_L, avw_R, clr_cons, clr_nil, kst_0, kst_1, kstL_0, kstL_1, addk_I, pA_0, pA_s, pD_0, pD_s, wid_nil, wid_cons, rcv_c, putv_I, putv_L, List.length_cons, List.length_nil, List.set_cons_zero, List.set_cons_succ, not_false_eq_true, Nat.reduceMod, Nat.reduceDiv, Nat.reduceEqDiff, Nat.reduceLT, Nat.reduceLeDiff, Nat.reduceAdd, Nat.reduceSub, reduceIte, Nat.lt_irrefl, Nat.zero_ne_one, Nat.one_ne_zero, Nat.zero_add, List.nil_append, List.cons_append, Option.toList_some, Option.toList_none, forall_const, false_implies, true_implies, false_or, or_false, true_or, or_true]
    rw [i_le (by omega) (by omega), i_cl (by omega), (ht r (by omega)).1]
    refine ⟨fun h => absurd h (by omega), fun _ => ⟨i_in (by omega) (by decide), ?_⟩⟩
    refine l_Rdig1 ht (by omega) ?_ (rs r - 1) 0 (by omega)
    refine s_X4_digestOn_64 ?_
    simp only [B_X4_digestOn_64, wi_iinc, wi_goto, no0, no1, nz1, nz2, nz3, nz4, nz5, nz7, nz8, Classical.not_not, bz0, bz1, wi_nil, ld_0, ld_s, isIv_I, isLv_L, isRv_R, true_and, and_true, lset_0, lset_1, lset_s, avw_I, avw_L, avw_R, clr_cons, clr_nil, kst_0, kst_1, kstL_0, kstL_1, addk_I, pA_0, pA_s, pD_0, pD_s, wid_nil, wid_cons, rcv_c, putv_I, putv_L, List.length_cons, List.length_nil, List.set_cons_zero, List.set_cons_succ, not_false_eq_true, Nat.reduceMod, Nat.reduceDiv, Nat.reduceEqDiff, Nat.reduceLT, Nat.reduceLeDiff, Nat.reduceAdd, Nat.reduceSub, reduceIte, Nat.lt_irrefl, Nat.zero_ne_one, Nat.one_ne_zero, Nat.zero_add, List.nil_append, List.cons_append, Option.toList_some, Option.toList_none, forall_const, false_implies, true_implies, false_or, or_false, true_or, or_true]
    rw [nI_add]
    exact ih (r + 1) (by omega)
theorem c_Rdig {h : Int64} (ht : Tb S 15 16 6 40 rs rc) (q : P (some (aL (dgT rs rc 6 h))) S) : wpM (d + 2) mX4_digestOn [aR 3 0, aL h] S P := by
  refine x_entry (ls2 := [aR 3 0, aL h, aU, aU, aU, aU, aU]) (Nat.le_of_ble_eq_true rfl) pl_4 rfl (Nat.le_of_ble_eq_true rfl) ?_
  refine s_X4_digestOn_0 ?_
  simp only [B_X4_digestOn_0, wi_lload_n, wi_lstore_n, wi_iconst, wi_istore, no0, no1, nz1, nz2, nz3, nz4, nz5, nz7, nz8, Classical.not_not, bz0, bz1, wi_nil, ld_0, ld_s, isIv_I, isLv_L, isRv_R, true_and, and_true, lset_0, lset_1, lset_s, avw_I, avw_L, avw_R, clr_cons, clr_nil, kst_0, kst_1, kstL_0, kstL_1, addk_I, pA_0, pA_s, pD_0, pD_s, wid_nil, wid_cons, rcv_c, putv_I, putv_L, List.length_cons, List.length_nil, List.set_cons_zero, List.set_cons_succ, not_false_eq_true, Nat.reduceMod, Nat.reduceDiv, Nat.reduceEqDiff, Nat.reduceLT, Nat.reduceLeDiff, Nat.reduceAdd, Nat.reduceSub, reduceIte, Nat.lt_irrefl, Nat.zero_ne_one, Nat.one_ne_zero, Nat.zero_add, List.nil_append, List.cons_append, Option.toList_some, Option.toList_none, forall_const, false_implies, true_implies, false_or, or_false, true_or, or_true]
  exact l_Rdig ht q 6 0 rfl
theorem l_Tdig1 {r : Nat} {h : Int64} (ht : Tb S 17 18 4 60 rs rc) (hr : r < 4) (q : wpX (d + 1) mX6_digestOn 63 [aR 5 0, aU, aU, aL (dg1 (rc r) (rs r - 1) h), aU, aI (nI r), aU] [] S P) : ∀ (n i : Nat), i + n = rs r - 1 → wpX (d + 1) mX6_digestOn 29 [aR 5 0, aU, aU, aL (dg1 (rc r) i h), aU, aI (nI r), aI (nI i)] [] S P := by
  have hz := ht r hr
  intro n
  induction n with
  | zero =>
    intro i hi
    refine s_X6_digestOn_29 ?_
    simp only [B_X6_digestOn_29, wi_iload, wi_aload_n, wi_getfield, fldv_5_0, fds_5_0, cnt_5, wi_iaload, wi_icmp_ge, wi_ldc2_w, wi_lload_n, wi_lmul, wi_invokevirtual, cnt_17, aTy_17, aLn_17, arr_17, no0, no1, nz1, nz2, nz3, nz4, nz5, nz7, nz8, Classical.not_not, bz0, bz1, wi_nil, ld_0, ld_s, isIv_I, isLv_L, isRv_R, true_and, and_true, lset_0, lset_1, lset_s, avw_I, avw_L, avw_R, clr_cons, clr_nil, kst_0, kst_1, kstL_0, kstL_1, addk_I, pA_0, pA_s, pD_0, pD_s, wid_nil, wid_cons, rcv_c, putv_I, putv_L, List.length_cons, List.length_nil, List.set_cons_zero, List.set_cons_succ, not_false_eq_true, Nat.reduceMod, Nat.reduceDiv, Nat.reduceEqDiff, Nat.reduceLT, Nat.reduceLeDiff, Nat.reduceAdd, Nat.reduceSub, reduceIte, Nat.lt_irrefl, Nat.zero_ne_one, Nat.one_ne_zero, Nat.zero_add, List.nil_append, List.cons_append, Option.toList_some, Option.toList_none, forall_const, false_implies, true_implies, false_or, or_false, true_or, or_true]
    rw [i_cl (by omega), hz.1, sz_le (by omega) (by omega)]
    refine ⟨i_in hr (by decide), fun _ => ?_, fun h => absurd (by omega) h⟩
    rw [show rs r - 1 = i by omega] at q
    exact q
  | succ n ih =>
    intro i hi
    refine s_X6_digestOn_29 ?_
    simp only [B_X6_digestOn_29, wi_iload, wi_aload_n, wi_getfield, fldv_5_0, fds_5_0, cnt_5, wi_iaload, wi_icmp_ge, wi_ldc2_w, wi_lload_n, wi_lmul, wi_invokevirtual, cnt_17, aTy_17, aLn_17, arr_17, no0, no1, nz1, nz2, nz3, nz4, nz5, nz7, nz8, Classical.not_not, bz0, bz1, wi_nil, ld_0, ld_s, isIv_I, isLv_L, isRv_R, true_and, and_true, lset_0, lset_1, lset_s, avw_I, avw_L, avw_R, clr_cons, clr_nil, kst_0, kst_1, kstL_0, kstL_1, addk_I, pA_0, pA_s, pD_0, pD_s, wid_nil, wid_cons, rcv_c, putv_I, putv_L, List.length_cons, List.length_nil, List.set_cons_zero, List.set_cons_succ, not_false_eq_true, Nat.reduceMod, Nat.reduceDiv, Nat.reduceEqDiff, Nat.reduceLT, Nat.reduceLeDiff, Nat.reduceAdd, Nat.reduceSub, reduceIte, Nat.lt_irrefl, Nat.zero_ne_one, Nat.one_ne_zero, Nat.zero_add, List.nil_append, List.cons_append, Option.toList_some, Option.toList_none, forall_const, false_implies, true_implies, false_or, or_false, true_or, or_true]
    rw [i_cl (by omega), hz.1, sz_le (by omega) (by omega)]
    refine ⟨i_in hr (by decide), fun h => absurd h (by omega), fun _ => ?_⟩
    refine c_Tread ht hr (by omega) ?_
    refine s_X6_digestOn_54 ?_
    simp only [B_X6_digestOn_54, wi_i2l, wi_ladd, wi_lstore_n, wi_iinc, wi_goto, no0, no1, nz1, nz2, nz3, nz4, nz5, nz7, nz8, Classical.not_not, bz0, bz1, wi_nil, ld_0, ld_s, isIv_I, isLv_L, isRv_R, true_and, and_true, lset_0, lset_1, lset_s, avw_I, avw_L, avw_R, clr_cons, clr_nil, kst_0, kst_1, kstL_0, kstL_1, addk_I, pA_0, pA_s, pD_0, pD_s, wid_nil, wid_cons, rcv_c, putv_I, putv_L, List.length_cons, List.length_nil, List.set_cons_zero, List.set_cons_succ, not_false_eq_true, Nat.reduceMod, Nat.reduceDiv, Nat.reduceEqDiff, Nat.reduceLT, Nat.reduceLeDiff, Nat.reduceAdd, Nat.reduceSub, reduceIte, Nat.lt_irrefl, Nat.zero_ne_one, Nat.one_ne_zero, Nat.zero_add, List.nil_append, List.cons_append, Option.toList_some, Option.toList_none, forall_const, false_implies, true_implies, false_or, or_false, true_or, or_true]
    rw [nI_add]
    exact ih (i + 1) (by omega)
theorem l_Tdig {h : Int64} (ht : Tb S 17 18 4 60 rs rc) (q : P (some (aL (dgT rs rc 4 h))) S) : ∀ (n r : Nat), r + n = 4 → wpX (d + 1) mX6_digestOn 5 [aR 5 0, aU, aU, aL (dgT rs rc r h), aU, aI (nI r), aU] [] S P := by
  intro n
  induction n with
  | zero =>
    intro r hr
    have e : r = 4 := by omega
    subst e
    refine s_X6_digestOn_5 ?_
    simp only [B_X6_digestOn_5, wi_iload, wi_iconst, wi_icmp_ge, wi_ldc2_w, wi_lload_n, wi_lmul, wi_aload_n, wi_getfield, fldv_5_0, fds_5_0, cnt_5, wi_iaload, wi_i2l, wi_ladd, wi_lstore_n, wi_istore, cnt_17, aTy_17, aLn_17, arr_17, no0, no1, nz1, nz2, nz3, nz4, nz5, nz7, nz8, Classical.not_not, bz0, bz1, wi_nil, ld_0, ld_s, isIv_I, isLv_L, isRv_R, true_and, and_true, lset_0, lset_1, lset_s, avw_I, avw_L, avw_R, clr_cons, clr_nil, kst_0, kst_1, kstL_0, kstL_1, addk_I, pA_0, pA_s, pD_0, pD_s, wid_nil, wid_cons, rcv_c, putv_I, putv_L, List.length_cons, List.length_nil, List.set_cons_zero, List.set_cons_succ, not_false_eq_true, Nat.reduceMod, Nat.reduceDiv, Nat.reduceEqDiff, Nat.reduceLT, Nat.reduceLeDiff, Nat.reduceAdd, Nat.reduceSub, reduceIte, Nat.lt_irrefl, Nat.zero_ne_one, Nat.one_ne_zero, Nat.zero_add, List.nil_append, List.cons_append, Option.toList_some, Option.toList_none, forall_const, false_implies, true_implies, false_or, or_false, true_or, or_true]
    refine ⟨fun _ => ?_, fun h => absurd (by decide) h⟩
    refine s_X6_digestOn_69 ?_
    simp only [B_X6_digestOn_69, wi_lload_n, wi_lreturn, no0, no1, nz1, nz2, nz3, nz4, nz5, nz7, nz8, Classical.not_not, bz0, bz1, wi_nil, ld_0, ld_s, isIv_I, isLv_L, isRv_R, true_and, and_true, lset_0, lset_1, lset_s, avw_I, avw_L, avw_R, clr_cons, clr_nil, kst_0, kst_1, kstL_0, kstL_1, addk_I, pA_0, pA_s, pD_0, pD_s, wid_nil, wid_cons, rcv_c, putv_I, putv_L, List.length_cons, List.length_nil, List.set_cons_zero, List.set_cons_succ, not_false_eq_true, Nat.reduceMod, Nat.reduceDiv, Nat.reduceEqDiff, Nat.reduceLT, Nat.reduceLeDiff, Nat.reduceAdd, Nat.reduceSub, reduceIte, Nat.lt_irrefl, Nat.zero_ne_one, Nat.one_ne_zero, Nat.zero_add, List.nil_append, List.cons_append, Option.toList_some, Option.toList_none, forall_const, false_implies, true_implies, false_or, or_false, true_or, or_true]
    exact q
  | succ n ih =>
    intro r hr
    refine s_X6_digestOn_5 ?_
    simp only [B_X6_digestOn_5, wi_iload, wi_iconst, wi_icmp_ge, wi_ldc2_w, wi_lload_n, wi_lmul, wi_aload_n, wi_getfield, fldv_5_0, fds_5_0, cnt_5, wi_iaload, wi_i2l, wi_ladd, wi_lstore_n, wi_istore, cnt_17, aTy_17, aLn_17, arr_17, no0, no1, nz1, nz2, nz3, nz4, nz5, nz7, nz8, Classical.not_not, bz0, bz1, wi_nil, ld_0, ld_s, isIv_I, isLv_L, isRv_R, true_and, and_true, lset_0, lset_1, lset_s, avw_I, avw_L, avw_R, clr_cons, clr_nil, kst_0, kst_1, kstL_0, kstL_1, addk_I, pA_0, pA_s, pD_0, pD_s, wid_nil, wid_cons, rcv_c, putv_I, putv_L, List.length_cons, List.length_nil, List.set_cons_zero, List.set_cons_succ, not_false_eq_true, Nat.reduceMod, Nat.reduceDiv, Nat.reduceEqDiff, Nat.reduceLT, Nat.reduceLeDiff, Nat.reduceAdd, Nat.reduceSub, reduceIte, Nat.lt_irrefl, Nat.zero_ne_one, Nat.one_ne_zero, Nat.zero_add, List.nil_append, List.cons_append, Option.toList_some, Option.toList_none, forall_const, false_implies, true_implies, false_or, or_false, true_or, or_true]
    rw [i_le (by omega) (by omega), i_cl (by omega), (ht r (by omega)).1]
    refine ⟨fun h => absurd h (by omega), fun _ => ⟨i_in (by omega) (by decide), ?_⟩⟩
    refine l_Tdig1 ht (by omega) ?_ (rs r - 1) 0 (by omega)
    refine s_X6_digestOn_63 ?_
    simp only [B_X6_digestOn_63, wi_iinc, wi_goto, no0, no1, nz1, nz2, nz3, nz4, nz5, nz7, nz8, Classical.not_not, bz0, bz1, wi_nil, ld_0, ld_s, isIv_I, isLv_L, isRv_R, true_and, and_true, lset_0, lset_1, lset_s, avw_I, avw_L, avw_R, clr_cons, clr_nil, kst_0, kst_1, kstL_0, kstL_1, addk_I, pA_0, pA_s, pD_0, pD_s, wid_nil, wid_cons, rcv_c, putv_I, putv_L, List.length_cons, List.length_nil, List.set_cons_zero, List.set_cons_succ, not_false_eq_true, Nat.reduceMod, Nat.reduceDiv, Nat.reduceEqDiff, Nat.reduceLT, Nat.reduceLeDiff, Nat.reduceAdd, Nat.reduceSub, reduceIte, Nat.lt_irrefl, Nat.zero_ne_one, Nat.one_ne_zero, Nat.zero_add, List.nil_append, List.cons_append, Option.toList_some, Option.toList_none, forall_const, false_implies, true_implies, false_or, or_false, true_or, or_true]
    rw [nI_add]
    exact ih (r + 1) (by omega)
theorem c_Tdig {h : Int64} (ht : Tb S 17 18 4 60 rs rc) (q : P (some (aL (dgT rs rc 4 h))) S) : wpM (d + 2) mX6_digestOn [aR 5 0, aL h] S P := by
  refine x_entry (ls2 := [aR 5 0, aL h, aU, aU, aU, aU, aU]) (Nat.le_of_ble_eq_true rfl) pl_6 rfl (Nat.le_of_ble_eq_true rfl) ?_
  refine s_X6_digestOn_0 ?_
  simp only [B_X6_digestOn_0, wi_lload_n, wi_lstore_n, wi_iconst, wi_istore, no0, no1, nz1, nz2, nz3, nz4, nz5, nz7, nz8, Classical.not_not, bz0, bz1, wi_nil, ld_0, ld_s, isIv_I, isLv_L, isRv_R, true_and, and_true, lset_0, lset_1, lset_s, avw_I, avw_L, avw_R, clr_cons, clr_nil, kst_0, kst_1, kstL_0, kstL_1, addk_I, pA_0, pA_s, pD_0, pD_s, wid_nil, wid_cons, rcv_c, putv_I, putv_L, List.length_cons, List.length_nil, List.set_cons_zero, List.set_cons_succ, not_false_eq_true, Nat.reduceMod, Nat.reduceDiv, Nat.reduceEqDiff, Nat.reduceLT, Nat.reduceLeDiff, Nat.reduceAdd, Nat.reduceSub, reduceIte, Nat.lt_irrefl, Nat.zero_ne_one, Nat.one_ne_zero, Nat.zero_add, List.nil_append, List.cons_append, Option.toList_some, Option.toList_none, forall_const, false_implies, true_implies, false_or, or_false, true_or, or_true]
  exact l_Tdig ht q 4 0 rfl
end
