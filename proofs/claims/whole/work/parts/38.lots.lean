-- PART 38: lots
theorem p2i {i : Nat} (h : i < 5) : 2 ^ i < 32 := Nat.pow_lt_pow_right (a := 2) (by decide) h
def lotN (x : Nat) : Nat := x * 48271 % 2147483647
/-- the set kept on a day by lot x -/
def lotS (Y : Nat → Nat → Nat) (x : Nat) : Nat := chY Y (x % 4) &&& (31 - 2 ^ (x / 8 % Y 6 0))
def lotR (Y0 : Nat → Nat → Nat) : Nat → List Nat → Nat → Nat → List Nat × Nat
  | 0, as, _, t => (as, t)
  | m + 1, as, x, t => lotR Y0 m (as ++ [pkN 0 (lotS (nwY Y0 as) (lotN x)) 0]) (lotN x) (t + bct (lotS (nwY Y0 as) (lotN x)))
section
variable {d B : Nat} {S : MS} {Y Y0 : Nat → Nat → Nat} {P : Option AV → MS → Prop}
theorem lot_ok (hok : YOk B Y) (x : Nat) (h0 : 0 < Y 6 0) : lotS Y x < 32 ∧ AOk Y (pkN 0 (lotS Y x) 0) ∧ flY Y (pkN 0 (lotS Y x) 0) = psY Y (lotS Y x) 0 ∧ psM Y (lotS Y x) 0 = psY Y (lotS Y x) 0 := by
  obtain ⟨c1, c2⟩ := chY_sub hok (x % 4)
  have hn5 := hok.1.1
  have hsub : ∀ t, (lotS Y x).testBit t = true → t < Y 6 0 ∧ (Y 6 4).testBit t = false := by
    intro t ht
    unfold lotS at ht
    rw [Nat.testBit_and] at ht
    exact c2 t (Bool.and_eq_true_iff.mp ht).1
  have h32 : lotS Y x < 32 := and_lt32 c1
  have hlt : lotS Y x < 2 ^ Y 6 0 := by
    apply Nat.lt_pow_two_of_testBit
    intro i hi
    cases hb : (lotS Y x).testBit i
    · rfl
    · have := (hsub i hb).1; omega
  have hdis : (lotS Y x ||| 0) &&& Y 6 4 = 0 := by
    apply Nat.eq_of_testBit_eq
    intro i
    rw [Nat.or_zero, Nat.testBit_and, Nat.zero_testBit]
    cases hb : (lotS Y x).testBit i
    · rfl
    · rw [(hsub i hb).2]; rfl
  obtain ⟨k1, k2⟩ := ok_day (Y := Y) (s := lotS Y x) (o := 0) hn5 hlt (Nat.two_pow_pos _) (Nat.and_zero _) hdis (by rw [bct_0]; exact Nat.zero_le _)
  exact ⟨h32, k1, k2, psM_day2 hn5 (Nat.two_pow_pos _) (Nat.and_zero _) hdis⟩
theorem lotN_lt (x : Nat) : lotN x < 2147483647 := Nat.mod_lt _ (by decide)
theorem lot_ar {x n : Nat} (hx : x < 2147483647) (h0 : 0 < n) (hn : n ≤ 5) : lN (x * 48271) - lN (x * 48271) / lN 2147483647 * lN 2147483647 = lN (lotN x) ∧ lN (48271 * x) - lN (48271 * x) / lN 2147483647 * lN 2147483647 = lN (lotN x) ∧ lN (lotN x) / lN 8 = lN (lotN x / 8) ∧ lN (lotN x / 8) - lN (lotN x / 8) / lN n * lN n = lN (lotN x / 8 % n) ∧ lN (lotN x) - lN (lotN x) / lN 4 * lN 4 = lN (lotN x % 4) ∧ (lN n = 0) = False := by
  have hX := lotN_lt x
  refine ⟨?_, ?_, ?_, ?_, ?_, eq_false (lN_ne0 h0 (by omega))⟩
  · rw [pk_lRem (by omega) (by decide) (by decide)]; rfl
  · rw [pk_lRem (by omega) (by decide) (by decide), Nat.mul_comm]; rfl
  · rw [pk_lDiv (by omega) (by decide) (by decide)]
  · rw [pk_lRem (by omega) h0 (by omega)]
  · rw [pk_lRem (by omega) (by decide) (by decide)]
theorem ne_M : (lN 2147483647 = 0) = False := eq_false (lN_ne0 (by decide) (by decide))
theorem ne_8 : (lN 8 = 0) = False := eq_false (lN_ne0 (by decide) (by decide))
theorem ne_4 : (lN 4 = 0) = False := eq_false (lN_ne0 (by decide) (by decide))
theorem l_xlots {S0 : MS} {R : List Nat × Nat} {n : Nat} (h0 : YOk 0 Y0) (hp : 0 < Y0 6 0) (hn : n ≤ 20) (q : ∀ S2, XAc S2 R.1 → YrX S2 1 (nwY Y0 R.1) → Fr (pN 7) S0 S2 → AcOk Y0 R.1 → P (some (aI (nI R.2))) S2) :
    ∀ (m k : Nat) (as : List Nat) (x t : Nat) (S : MS), k + m = n → as.length + m ≤ 40 → t ≤ 6 * k → x < 2147483647 → lotR Y0 m as x t = R → XAc S as → YrX S 1 (nwY Y0 as) → AcOk Y0 as → Fr (pN 7) S0 S → wpX (d + 9) mX8_lots 61 [aR 7 0, aI (nI n), aU, aL (lN x), aU, aI (nI t), aI (nI k), aU, aU] [] S P := by
  intro m
  induction m with
  | zero =>
    intro k as x t S hk hl ht hx hR x1 x2 ha hf
    have e : k = n := by omega
    subst e
    subst hR
    refine s_X8_lots_61 ?_
    simp (disch := omega) only [B_X8_lots_61, wi_iload, wi_iload_n, wi_icmp_ge, wi_lload_n, wi_ldc2_w, wi_lmul, wi_lrem, wi_lstore_n, wi_ldiv, wi_aload_n, wi_getfield, fldv_7_3, fds_7_3, cnt_7, fldv_6_7, fds_6_7, cnt_6, wi_i2l, wi_l2i, wi_istore, wi_invokevirtual, no0, no1, nz1, nz2, nz3, nz4, nz5, nz7, nz8, Classical.not_not, bz0, bz1, wi_nil, ld_0, ld_s, isIv_I, isLv_L, isRv_R, true_and, and_true, lset_0, lset_1, lset_s, avw_I, avw_L, avw_R, clr_cons, clr_nil, kst_0, kst_1, kstL_0, kstL_1, addk_I, pA_0, pA_s, pD_0, pD_s, wid_nil, wid_cons, rcv_c, putv_I, putv_L, List.length_cons, List.length_nil, List.set_cons_zero, List.set_cons_succ, not_false_eq_true, Nat.reduceMod, Nat.reduceDiv, Nat.reduceEqDiff, Nat.reduceLT, Nat.reduceLeDiff, Nat.reduceAdd, Nat.reduceSub, reduceIte, Nat.lt_irrefl, Nat.zero_ne_one, Nat.one_ne_zero, Nat.zero_add, List.nil_append, List.cons_append, Option.toList_some, Option.toList_none, forall_const, false_implies, true_implies, false_or, or_false, true_or, or_true, i_le, i_lt, i_eq, i_eq0, i_lt0, i_0le, i_0lt, i_le0, i_in1, i_cl, nI_add, pk_mul, pk_sub, i_div, i_rem, i_sh1, i_bit, i_or, i_and, i_andn, nt_le, nf_le, nt_lt, nf_lt, nt_eq, nf_eq, not_true_eq_false, and_self, and_false, false_and, eq_self, Bool.toNat_true, Bool.toNat_false, i_bool, i_bool1, Bool.false_eq_true, Bool.true_eq_false, reduceCtorEq, i_neg1, i_neg2, i_neg3, i_neg4, i_neg5, i_neg6, i_neg7, i_neg8, i_neg9, i_nega, i_negb, i_negc, i_max2, i_min2]
    try simp (disch := omega) only [no0, no1, nz1, nz2, nz3, nz4, nz5, nz7, nz8, Classical.not_not, bz0, bz1, wi_nil, ld_0, ld_s, isIv_I, isLv_L, isRv_R, true_and, and_true, lset_0, lset_1, lset_s, avw_I, avw_L, avw_R, clr_cons, clr_nil, kst_0, kst_1, kstL_0, kstL_1, addk_I, pA_0, pA_s, pD_0, pD_s, wid_nil, wid_cons, rcv_c, putv_I, putv_L, List.length_cons, List.length_nil, List.set_cons_zero, List.set_cons_succ, not_false_eq_true, Nat.reduceMod, Nat.reduceDiv, Nat.reduceEqDiff, Nat.reduceLT, Nat.reduceLeDiff, Nat.reduceAdd, Nat.reduceSub, reduceIte, Nat.lt_irrefl, Nat.zero_ne_one, Nat.one_ne_zero, Nat.zero_add, List.nil_append, List.cons_append, Option.toList_some, Option.toList_none, forall_const, false_implies, true_implies, false_or, or_false, true_or, or_true, i_le, i_lt, i_eq, i_eq0, i_lt0, i_0le, i_0lt, i_le0, i_in1, i_cl, nI_add, pk_mul, pk_sub, i_div, i_rem, i_sh1, i_bit, i_or, i_and, i_andn, nt_le, nf_le, nt_lt, nf_lt, nt_eq, nf_eq, not_true_eq_false, and_self, and_false, false_and, eq_self, Bool.toNat_true, Bool.toNat_false, i_bool, i_bool1, Bool.false_eq_true, Bool.true_eq_false, reduceCtorEq, i_neg1, i_neg2, i_neg3, i_neg4, i_neg5, i_neg6, i_neg7, i_neg8, i_neg9, i_nega, i_negb, i_negc, i_max2, i_min2, wi_nil]
    repeat (
      first
      | refine s_X8_lots_0 ?_
      | refine s_X8_lots_23 ?_
      | refine s_X8_lots_25 ?_
      | refine s_X8_lots_38 ?_
      | refine s_X8_lots_46 ?_
      | refine s_X8_lots_52 ?_
      | refine s_X8_lots_107 ?_
      | refine s_X8_lots_124 ?_
      | refine s_X8_lots_127 ?_
      | refine s_X8_lots_134 ?_
      | refine s_X8_lots_143 ?_
      simp (disch := omega) only [B_X8_lots_0, wi_iload_n, wi_iconst, wi_icmp_lt, wi_bipush, wi_icmp_gt, wi_ldc_w, B_X8_lots_23, wi_ireturn, B_X8_lots_25, wi_aload_n, wi_getfield, fldv_7_3, fds_7_3, cnt_7, fldv_6_7, fds_6_7, cnt_6, wi_if_gt, B_X8_lots_38, fldv_7_6, fds_7_6, wi_invokevirtual, cnt_0, B_X8_lots_46, wi_if_ne, B_X8_lots_52, wi_i2l, wi_lstore_n, wi_istore, B_X8_lots_61, wi_iload, wi_icmp_ge, wi_lload_n, wi_ldc2_w, wi_lmul, wi_lrem, wi_ldiv, wi_l2i, B_X8_lots_107, wi_ishl, wi_ixor, wi_iand, wi_invokestatic, B_X8_lots_124, B_X8_lots_127, B_X8_lots_134, wi_iadd, wi_iinc, wi_goto, B_X8_lots_143, no0, no1, nz1, nz2, nz3, nz4, nz5, nz7, nz8, Classical.not_not, bz0, bz1, wi_nil, ld_0, ld_s, isIv_I, isLv_L, isRv_R, true_and, and_true, lset_0, lset_1, lset_s, avw_I, avw_L, avw_R, clr_cons, clr_nil, kst_0, kst_1, kstL_0, kstL_1, addk_I, pA_0, pA_s, pD_0, pD_s, wid_nil, wid_cons, rcv_c, putv_I, putv_L, List.length_cons, List.length_nil, List.set_cons_zero, List.set_cons_succ, not_false_eq_true, Nat.reduceMod, Nat.reduceDiv, Nat.reduceEqDiff, Nat.reduceLT, Nat.reduceLeDiff, Nat.reduceAdd, Nat.reduceSub, reduceIte, Nat.lt_irrefl, Nat.zero_ne_one, Nat.one_ne_zero, Nat.zero_add, List.nil_append, List.cons_append, Option.toList_some, Option.toList_none, forall_const, false_implies, true_implies, false_or, or_false, true_or, or_true, i_le, i_lt, i_eq, i_eq0, i_lt0, i_0le, i_0lt, i_le0, i_in1, i_cl, nI_add, pk_mul, pk_sub, i_div, i_rem, i_sh1, i_bit, i_or, i_and, i_andn, nt_le, nf_le, nt_lt, nf_lt, nt_eq, nf_eq, not_true_eq_false, and_self, and_false, false_and, eq_self, Bool.toNat_true, Bool.toNat_false, i_bool, i_bool1, Bool.false_eq_true, Bool.true_eq_false, reduceCtorEq, i_neg1, i_neg2, i_neg3, i_neg4, i_neg5, i_neg6, i_neg7, i_neg8, i_neg9, i_nega, i_negb, i_negc, i_max2, i_min2])
    exact q S x1 x2 hf ha
  | succ m ih =>
    intro k as x t S hk hl ht hx hR x1 x2 ha hf
    have hok : YOk 40 (nwY Y0 as) := YOk_mono (nwY_ok as 0 Y0 h0 ha.2) (by have := ha.1; omega)
    have hn0 : nwY Y0 as 6 0 = Y0 6 0 := nwY_n as Y0
    have hn5 := hok.1.1
    rw [lotR] at hR
    obtain ⟨g1, g2, g3, g4⟩ := lot_ok hok (lotN x) (by omega)
    have hb6 := bct_lt (s := lotS (nwY Y0 as) (lotN x)) (by omega)
    obtain ⟨r1, -, r3, r4, r5, r6⟩ := lot_ar hx (show 0 < nwY Y0 as 6 0 by omega) hn5
    have hmod : lotN x / 8 % nwY Y0 as 6 0 < nwY Y0 as 6 0 := Nat.mod_lt _ (by omega)
    have hch := (chY_sub hok (lotN x % 4)).1
    have h2s : 2 ^ (lotN x / 8 % nwY Y0 as 6 0) < 32 := p2i (by omega)
    have eS : chY (nwY Y0 as) (lotN x % 4) &&& (31 - 2 ^ (lotN x / 8 % nwY Y0 as 6 0)) = lotS (nwY Y0 as) (lotN x) := rfl
    refine s_X8_lots_61 ?_
    simp (disch := omega) only [B_X8_lots_61, wi_iload, wi_iload_n, wi_icmp_ge, wi_lload_n, wi_ldc2_w, wi_lmul, wi_lrem, wi_lstore_n, wi_ldiv, wi_aload_n, wi_getfield, fldv_7_3, fds_7_3, cnt_7, fldv_6_7, fds_6_7, cnt_6, wi_i2l, wi_l2i, wi_istore, wi_invokevirtual, no0, no1, nz1, nz2, nz3, nz4, nz5, nz7, nz8, Classical.not_not, bz0, bz1, wi_nil, ld_0, ld_s, isIv_I, isLv_L, isRv_R, true_and, and_true, lset_0, lset_1, lset_s, avw_I, avw_L, avw_R, clr_cons, clr_nil, kst_0, kst_1, kstL_0, kstL_1, addk_I, pA_0, pA_s, pD_0, pD_s, wid_nil, wid_cons, rcv_c, putv_I, putv_L, List.length_cons, List.length_nil, List.set_cons_zero, List.set_cons_succ, not_false_eq_true, Nat.reduceMod, Nat.reduceDiv, Nat.reduceEqDiff, Nat.reduceLT, Nat.reduceLeDiff, Nat.reduceAdd, Nat.reduceSub, reduceIte, Nat.lt_irrefl, Nat.zero_ne_one, Nat.one_ne_zero, Nat.zero_add, List.nil_append, List.cons_append, Option.toList_some, Option.toList_none, forall_const, false_implies, true_implies, false_or, or_false, true_or, or_true, i_le, i_lt, i_eq, i_eq0, i_lt0, i_0le, i_0lt, i_le0, i_in1, i_cl, nI_add, pk_mul, pk_sub, i_div, i_rem, i_sh1, i_bit, i_or, i_and, i_andn, nt_le, nf_le, nt_lt, nf_lt, nt_eq, nf_eq, not_true_eq_false, and_self, and_false, false_and, eq_self, Bool.toNat_true, Bool.toNat_false, i_bool, i_bool1, Bool.false_eq_true, Bool.true_eq_false, reduceCtorEq, i_neg1, i_neg2, i_neg3, i_neg4, i_neg5, i_neg6, i_neg7, i_neg8, i_neg9, i_nega, i_negb, i_negc, i_max2, i_min2, (y_n x2), lN_mul, r1, r3, nI_l, r4, r5, r6, ne_M, ne_8, ne_4, lN_i]
    refine c_choice (by decide) x2 hok (by decide) (by omega) (fun g hg => ?_)
    try simp (disch := omega) only [no0, no1, nz1, nz2, nz3, nz4, nz5, nz7, nz8, Classical.not_not, bz0, bz1, wi_nil, ld_0, ld_s, isIv_I, isLv_L, isRv_R, true_and, and_true, lset_0, lset_1, lset_s, avw_I, avw_L, avw_R, clr_cons, clr_nil, kst_0, kst_1, kstL_0, kstL_1, addk_I, pA_0, pA_s, pD_0, pD_s, wid_nil, wid_cons, rcv_c, putv_I, putv_L, List.length_cons, List.length_nil, List.set_cons_zero, List.set_cons_succ, not_false_eq_true, Nat.reduceMod, Nat.reduceDiv, Nat.reduceEqDiff, Nat.reduceLT, Nat.reduceLeDiff, Nat.reduceAdd, Nat.reduceSub, reduceIte, Nat.lt_irrefl, Nat.zero_ne_one, Nat.one_ne_zero, Nat.zero_add, List.nil_append, List.cons_append, Option.toList_some, Option.toList_none, forall_const, false_implies, true_implies, false_or, or_false, true_or, or_true, i_le, i_lt, i_eq, i_eq0, i_lt0, i_0le, i_0lt, i_le0, i_in1, i_cl, nI_add, pk_mul, pk_sub, i_div, i_rem, i_sh1, i_bit, i_or, i_and, i_andn, nt_le, nf_le, nt_lt, nf_lt, nt_eq, nf_eq, not_true_eq_false, and_self, and_false, false_and, eq_self, Bool.toNat_true, Bool.toNat_false, i_bool, i_bool1, Bool.false_eq_true, Bool.true_eq_false, reduceCtorEq, i_neg1, i_neg2, i_neg3, i_neg4, i_neg5, i_neg6, i_neg7, i_neg8, i_neg9, i_nega, i_negb, i_negc, i_max2, i_min2, eS, wi_nil]
    repeat (
      first
      | refine s_X8_lots_0 ?_
      | refine s_X8_lots_23 ?_
      | refine s_X8_lots_25 ?_
      | refine s_X8_lots_38 ?_
      | refine s_X8_lots_46 ?_
      | refine s_X8_lots_52 ?_
      | refine s_X8_lots_107 ?_
      | refine s_X8_lots_124 ?_
      | refine s_X8_lots_127 ?_
      | refine s_X8_lots_134 ?_
      | refine s_X8_lots_143 ?_
      simp (disch := omega) only [B_X8_lots_0, wi_iload_n, wi_iconst, wi_icmp_lt, wi_bipush, wi_icmp_gt, wi_ldc_w, B_X8_lots_23, wi_ireturn, B_X8_lots_25, wi_aload_n, wi_getfield, fldv_7_3, fds_7_3, cnt_7, fldv_6_7, fds_6_7, cnt_6, wi_if_gt, B_X8_lots_38, fldv_7_6, fds_7_6, wi_invokevirtual, cnt_0, B_X8_lots_46, wi_if_ne, B_X8_lots_52, wi_i2l, wi_lstore_n, wi_istore, B_X8_lots_61, wi_iload, wi_icmp_ge, wi_lload_n, wi_ldc2_w, wi_lmul, wi_lrem, wi_ldiv, wi_l2i, B_X8_lots_107, wi_ishl, wi_ixor, wi_iand, wi_invokestatic, B_X8_lots_124, B_X8_lots_127, B_X8_lots_134, wi_iadd, wi_iinc, wi_goto, B_X8_lots_143, no0, no1, nz1, nz2, nz3, nz4, nz5, nz7, nz8, Classical.not_not, bz0, bz1, wi_nil, ld_0, ld_s, isIv_I, isLv_L, isRv_R, true_and, and_true, lset_0, lset_1, lset_s, avw_I, avw_L, avw_R, clr_cons, clr_nil, kst_0, kst_1, kstL_0, kstL_1, addk_I, pA_0, pA_s, pD_0, pD_s, wid_nil, wid_cons, rcv_c, putv_I, putv_L, List.length_cons, List.length_nil, List.set_cons_zero, List.set_cons_succ, not_false_eq_true, Nat.reduceMod, Nat.reduceDiv, Nat.reduceEqDiff, Nat.reduceLT, Nat.reduceLeDiff, Nat.reduceAdd, Nat.reduceSub, reduceIte, Nat.lt_irrefl, Nat.zero_ne_one, Nat.one_ne_zero, Nat.zero_add, List.nil_append, List.cons_append, Option.toList_some, Option.toList_none, forall_const, false_implies, true_implies, false_or, or_false, true_or, or_true, i_le, i_lt, i_eq, i_eq0, i_lt0, i_0le, i_0lt, i_le0, i_in1, i_cl, nI_add, pk_mul, pk_sub, i_div, i_rem, i_sh1, i_bit, i_or, i_and, i_andn, nt_le, nf_le, nt_lt, nf_lt, nt_eq, nf_eq, not_true_eq_false, and_self, and_false, false_and, eq_self, Bool.toNat_true, Bool.toNat_false, i_bool, i_bool1, Bool.false_eq_true, Bool.true_eq_false, reduceCtorEq, i_neg1, i_neg2, i_neg3, i_neg4, i_neg5, i_neg6, i_neg7, i_neg8, i_neg9, i_nega, i_negb, i_negc, i_max2, i_min2, eS])
    refine c_pack (by decide) (by omega) (by decide) ?_
    try simp (disch := omega) only [no0, no1, nz1, nz2, nz3, nz4, nz5, nz7, nz8, Classical.not_not, bz0, bz1, wi_nil, ld_0, ld_s, isIv_I, isLv_L, isRv_R, true_and, and_true, lset_0, lset_1, lset_s, avw_I, avw_L, avw_R, clr_cons, clr_nil, kst_0, kst_1, kstL_0, kstL_1, addk_I, pA_0, pA_s, pD_0, pD_s, wid_nil, wid_cons, rcv_c, putv_I, putv_L, List.length_cons, List.length_nil, List.set_cons_zero, List.set_cons_succ, not_false_eq_true, Nat.reduceMod, Nat.reduceDiv, Nat.reduceEqDiff, Nat.reduceLT, Nat.reduceLeDiff, Nat.reduceAdd, Nat.reduceSub, reduceIte, Nat.lt_irrefl, Nat.zero_ne_one, Nat.one_ne_zero, Nat.zero_add, List.nil_append, List.cons_append, Option.toList_some, Option.toList_none, forall_const, false_implies, true_implies, false_or, or_false, true_or, or_true, i_le, i_lt, i_eq, i_eq0, i_lt0, i_0le, i_0lt, i_le0, i_in1, i_cl, nI_add, pk_mul, pk_sub, i_div, i_rem, i_sh1, i_bit, i_or, i_and, i_andn, nt_le, nf_le, nt_lt, nf_lt, nt_eq, nf_eq, not_true_eq_false, and_self, and_false, false_and, eq_self, Bool.toNat_true, Bool.toNat_false, i_bool, i_bool1, Bool.false_eq_true, Bool.true_eq_false, reduceCtorEq, i_neg1, i_neg2, i_neg3, i_neg4, i_neg5, i_neg6, i_neg7, i_neg8, i_neg9, i_nega, i_negb, i_negc, i_max2, i_min2, wi_nil]
    repeat (
      first
      | refine s_X8_lots_0 ?_
      | refine s_X8_lots_23 ?_
      | refine s_X8_lots_25 ?_
      | refine s_X8_lots_38 ?_
      | refine s_X8_lots_46 ?_
      | refine s_X8_lots_52 ?_
      | refine s_X8_lots_107 ?_
      | refine s_X8_lots_124 ?_
      | refine s_X8_lots_127 ?_
      | refine s_X8_lots_134 ?_
      | refine s_X8_lots_143 ?_
      simp (disch := omega) only [B_X8_lots_0, wi_iload_n, wi_iconst, wi_icmp_lt, wi_bipush, wi_icmp_gt, wi_ldc_w, B_X8_lots_23, wi_ireturn, B_X8_lots_25, wi_aload_n, wi_getfield, fldv_7_3, fds_7_3, cnt_7, fldv_6_7, fds_6_7, cnt_6, wi_if_gt, B_X8_lots_38, fldv_7_6, fds_7_6, wi_invokevirtual, cnt_0, B_X8_lots_46, wi_if_ne, B_X8_lots_52, wi_i2l, wi_lstore_n, wi_istore, B_X8_lots_61, wi_iload, wi_icmp_ge, wi_lload_n, wi_ldc2_w, wi_lmul, wi_lrem, wi_ldiv, wi_l2i, B_X8_lots_107, wi_ishl, wi_ixor, wi_iand, wi_invokestatic, B_X8_lots_124, B_X8_lots_127, B_X8_lots_134, wi_iadd, wi_iinc, wi_goto, B_X8_lots_143, no0, no1, nz1, nz2, nz3, nz4, nz5, nz7, nz8, Classical.not_not, bz0, bz1, wi_nil, ld_0, ld_s, isIv_I, isLv_L, isRv_R, true_and, and_true, lset_0, lset_1, lset_s, avw_I, avw_L, avw_R, clr_cons, clr_nil, kst_0, kst_1, kstL_0, kstL_1, addk_I, pA_0, pA_s, pD_0, pD_s, wid_nil, wid_cons, rcv_c, putv_I, putv_L, List.length_cons, List.length_nil, List.set_cons_zero, List.set_cons_succ, not_false_eq_true, Nat.reduceMod, Nat.reduceDiv, Nat.reduceEqDiff, Nat.reduceLT, Nat.reduceLeDiff, Nat.reduceAdd, Nat.reduceSub, reduceIte, Nat.lt_irrefl, Nat.zero_ne_one, Nat.one_ne_zero, Nat.zero_add, List.nil_append, List.cons_append, Option.toList_some, Option.toList_none, forall_const, false_implies, true_implies, false_or, or_false, true_or, or_true, i_le, i_lt, i_eq, i_eq0, i_lt0, i_0le, i_0lt, i_le0, i_in1, i_cl, nI_add, pk_mul, pk_sub, i_div, i_rem, i_sh1, i_bit, i_or, i_and, i_andn, nt_le, nf_le, nt_lt, nf_lt, nt_eq, nf_eq, not_true_eq_false, and_self, and_false, false_and, eq_self, Bool.toNat_true, Bool.toNat_false, i_bool, i_bool1, Bool.false_eq_true, Bool.true_eq_false, reduceCtorEq, i_neg1, i_neg2, i_neg3, i_neg4, i_neg5, i_neg6, i_neg7, i_neg8, i_neg9, i_nega, i_negb, i_negc, i_max2, i_min2])
    refine c_act (show XAc (sA S 26 1 g) as from x1) (by omega) (yrx_26 x2) hok (by decide) g2 (fun T t1 t2 fx => ?_)
    rw [g3] at t2
    try simp (disch := omega) only [no0, no1, nz1, nz2, nz3, nz4, nz5, nz7, nz8, Classical.not_not, bz0, bz1, wi_nil, ld_0, ld_s, isIv_I, isLv_L, isRv_R, true_and, and_true, lset_0, lset_1, lset_s, avw_I, avw_L, avw_R, clr_cons, clr_nil, kst_0, kst_1, kstL_0, kstL_1, addk_I, pA_0, pA_s, pD_0, pD_s, wid_nil, wid_cons, rcv_c, putv_I, putv_L, List.length_cons, List.length_nil, List.set_cons_zero, List.set_cons_succ, not_false_eq_true, Nat.reduceMod, Nat.reduceDiv, Nat.reduceEqDiff, Nat.reduceLT, Nat.reduceLeDiff, Nat.reduceAdd, Nat.reduceSub, reduceIte, Nat.lt_irrefl, Nat.zero_ne_one, Nat.one_ne_zero, Nat.zero_add, List.nil_append, List.cons_append, Option.toList_some, Option.toList_none, forall_const, false_implies, true_implies, false_or, or_false, true_or, or_true, i_le, i_lt, i_eq, i_eq0, i_lt0, i_0le, i_0lt, i_le0, i_in1, i_cl, nI_add, pk_mul, pk_sub, i_div, i_rem, i_sh1, i_bit, i_or, i_and, i_andn, nt_le, nf_le, nt_lt, nf_lt, nt_eq, nf_eq, not_true_eq_false, and_self, and_false, false_and, eq_self, Bool.toNat_true, Bool.toNat_false, i_bool, i_bool1, Bool.false_eq_true, Bool.true_eq_false, reduceCtorEq, i_neg1, i_neg2, i_neg3, i_neg4, i_neg5, i_neg6, i_neg7, i_neg8, i_neg9, i_nega, i_negb, i_negc, i_max2, i_min2, wi_nil]
    repeat (
      first
      | refine s_X8_lots_0 ?_
      | refine s_X8_lots_23 ?_
      | refine s_X8_lots_25 ?_
      | refine s_X8_lots_38 ?_
      | refine s_X8_lots_46 ?_
      | refine s_X8_lots_52 ?_
      | refine s_X8_lots_107 ?_
      | refine s_X8_lots_124 ?_
      | refine s_X8_lots_127 ?_
      | refine s_X8_lots_134 ?_
      | refine s_X8_lots_143 ?_
      simp (disch := omega) only [B_X8_lots_0, wi_iload_n, wi_iconst, wi_icmp_lt, wi_bipush, wi_icmp_gt, wi_ldc_w, B_X8_lots_23, wi_ireturn, B_X8_lots_25, wi_aload_n, wi_getfield, fldv_7_3, fds_7_3, cnt_7, fldv_6_7, fds_6_7, cnt_6, wi_if_gt, B_X8_lots_38, fldv_7_6, fds_7_6, wi_invokevirtual, cnt_0, B_X8_lots_46, wi_if_ne, B_X8_lots_52, wi_i2l, wi_lstore_n, wi_istore, B_X8_lots_61, wi_iload, wi_icmp_ge, wi_lload_n, wi_ldc2_w, wi_lmul, wi_lrem, wi_ldiv, wi_l2i, B_X8_lots_107, wi_ishl, wi_ixor, wi_iand, wi_invokestatic, B_X8_lots_124, B_X8_lots_127, B_X8_lots_134, wi_iadd, wi_iinc, wi_goto, B_X8_lots_143, no0, no1, nz1, nz2, nz3, nz4, nz5, nz7, nz8, Classical.not_not, bz0, bz1, wi_nil, ld_0, ld_s, isIv_I, isLv_L, isRv_R, true_and, and_true, lset_0, lset_1, lset_s, avw_I, avw_L, avw_R, clr_cons, clr_nil, kst_0, kst_1, kstL_0, kstL_1, addk_I, pA_0, pA_s, pD_0, pD_s, wid_nil, wid_cons, rcv_c, putv_I, putv_L, List.length_cons, List.length_nil, List.set_cons_zero, List.set_cons_succ, not_false_eq_true, Nat.reduceMod, Nat.reduceDiv, Nat.reduceEqDiff, Nat.reduceLT, Nat.reduceLeDiff, Nat.reduceAdd, Nat.reduceSub, reduceIte, Nat.lt_irrefl, Nat.zero_ne_one, Nat.one_ne_zero, Nat.zero_add, List.nil_append, List.cons_append, Option.toList_some, Option.toList_none, forall_const, false_implies, true_implies, false_or, or_false, true_or, or_true, i_le, i_lt, i_eq, i_eq0, i_lt0, i_0le, i_0lt, i_le0, i_in1, i_cl, nI_add, pk_mul, pk_sub, i_div, i_rem, i_sh1, i_bit, i_or, i_and, i_andn, nt_le, nf_le, nt_lt, nf_lt, nt_eq, nf_eq, not_true_eq_false, and_self, and_false, false_and, eq_self, Bool.toNat_true, Bool.toNat_false, i_bool, i_bool1, Bool.false_eq_true, Bool.true_eq_false, reduceCtorEq, i_neg1, i_neg2, i_neg3, i_neg4, i_neg5, i_neg6, i_neg7, i_neg8, i_neg9, i_nega, i_negb, i_negc, i_max2, i_min2])
    refine c_bitCount (by omega) ?_
    try simp (disch := omega) only [no0, no1, nz1, nz2, nz3, nz4, nz5, nz7, nz8, Classical.not_not, bz0, bz1, wi_nil, ld_0, ld_s, isIv_I, isLv_L, isRv_R, true_and, and_true, lset_0, lset_1, lset_s, avw_I, avw_L, avw_R, clr_cons, clr_nil, kst_0, kst_1, kstL_0, kstL_1, addk_I, pA_0, pA_s, pD_0, pD_s, wid_nil, wid_cons, rcv_c, putv_I, putv_L, List.length_cons, List.length_nil, List.set_cons_zero, List.set_cons_succ, not_false_eq_true, Nat.reduceMod, Nat.reduceDiv, Nat.reduceEqDiff, Nat.reduceLT, Nat.reduceLeDiff, Nat.reduceAdd, Nat.reduceSub, reduceIte, Nat.lt_irrefl, Nat.zero_ne_one, Nat.one_ne_zero, Nat.zero_add, List.nil_append, List.cons_append, Option.toList_some, Option.toList_none, forall_const, false_implies, true_implies, false_or, or_false, true_or, or_true, i_le, i_lt, i_eq, i_eq0, i_lt0, i_0le, i_0lt, i_le0, i_in1, i_cl, nI_add, pk_mul, pk_sub, i_div, i_rem, i_sh1, i_bit, i_or, i_and, i_andn, nt_le, nf_le, nt_lt, nf_lt, nt_eq, nf_eq, not_true_eq_false, and_self, and_false, false_and, eq_self, Bool.toNat_true, Bool.toNat_false, i_bool, i_bool1, Bool.false_eq_true, Bool.true_eq_false, reduceCtorEq, i_neg1, i_neg2, i_neg3, i_neg4, i_neg5, i_neg6, i_neg7, i_neg8, i_neg9, i_nega, i_negb, i_negc, i_max2, i_min2, wi_nil]
    repeat (
      first
      | refine s_X8_lots_0 ?_
      | refine s_X8_lots_23 ?_
      | refine s_X8_lots_25 ?_
      | refine s_X8_lots_38 ?_
      | refine s_X8_lots_46 ?_
      | refine s_X8_lots_52 ?_
      | refine s_X8_lots_107 ?_
      | refine s_X8_lots_124 ?_
      | refine s_X8_lots_127 ?_
      | refine s_X8_lots_134 ?_
      | refine s_X8_lots_143 ?_
      simp (disch := omega) only [B_X8_lots_0, wi_iload_n, wi_iconst, wi_icmp_lt, wi_bipush, wi_icmp_gt, wi_ldc_w, B_X8_lots_23, wi_ireturn, B_X8_lots_25, wi_aload_n, wi_getfield, fldv_7_3, fds_7_3, cnt_7, fldv_6_7, fds_6_7, cnt_6, wi_if_gt, B_X8_lots_38, fldv_7_6, fds_7_6, wi_invokevirtual, cnt_0, B_X8_lots_46, wi_if_ne, B_X8_lots_52, wi_i2l, wi_lstore_n, wi_istore, B_X8_lots_61, wi_iload, wi_icmp_ge, wi_lload_n, wi_ldc2_w, wi_lmul, wi_lrem, wi_ldiv, wi_l2i, B_X8_lots_107, wi_ishl, wi_ixor, wi_iand, wi_invokestatic, B_X8_lots_124, B_X8_lots_127, B_X8_lots_134, wi_iadd, wi_iinc, wi_goto, B_X8_lots_143, no0, no1, nz1, nz2, nz3, nz4, nz5, nz7, nz8, Classical.not_not, bz0, bz1, wi_nil, ld_0, ld_s, isIv_I, isLv_L, isRv_R, true_and, and_true, lset_0, lset_1, lset_s, avw_I, avw_L, avw_R, clr_cons, clr_nil, kst_0, kst_1, kstL_0, kstL_1, addk_I, pA_0, pA_s, pD_0, pD_s, wid_nil, wid_cons, rcv_c, putv_I, putv_L, List.length_cons, List.length_nil, List.set_cons_zero, List.set_cons_succ, not_false_eq_true, Nat.reduceMod, Nat.reduceDiv, Nat.reduceEqDiff, Nat.reduceLT, Nat.reduceLeDiff, Nat.reduceAdd, Nat.reduceSub, reduceIte, Nat.lt_irrefl, Nat.zero_ne_one, Nat.one_ne_zero, Nat.zero_add, List.nil_append, List.cons_append, Option.toList_some, Option.toList_none, forall_const, false_implies, true_implies, false_or, or_false, true_or, or_true, i_le, i_lt, i_eq, i_eq0, i_lt0, i_0le, i_0lt, i_le0, i_in1, i_cl, nI_add, pk_mul, pk_sub, i_div, i_rem, i_sh1, i_bit, i_or, i_and, i_andn, nt_le, nf_le, nt_lt, nf_lt, nt_eq, nf_eq, not_true_eq_false, and_self, and_false, false_and, eq_self, Bool.toNat_true, Bool.toNat_false, i_bool, i_bool1, Bool.false_eq_true, Bool.true_eq_false, reduceCtorEq, i_neg1, i_neg2, i_neg3, i_neg4, i_neg5, i_neg6, i_neg7, i_neg8, i_neg9, i_nega, i_negb, i_negc, i_max2, i_min2])
    refine ih (k + 1) _ (lotN x) _ T (by omega) (by rw [List.length_append]; show as.length + 1 + m ≤ 40; omega) (by omega) (lotN_lt x) hR t1 (by rw [nwY_app, g3]; exact t2) (ac_app ha (by omega) g2) ((hf.trans fs_26.pn).trans fx)
theorem l_mlots {S0 : MS} {R : List Nat × Nat} {n : Nat} (h0 : YOk 0 Y0) (hp : 0 < Y0 6 0) (hn : n ≤ 20) (q : ∀ S2, MLg S2 Y0 R.1 → YrM S2 40 (nwY Y0 R.1) → Fr (pN 8) S0 S2 → P (some (aI (nI R.2))) S2) :
    ∀ (m k : Nat) (as : List Nat) (x t : Nat) (S : MS), k + m = n → as.length + m ≤ 40 → t ≤ 6 * k → x < 2147483647 → lotR Y0 m as x t = R → MLg S Y0 as → YrM S 40 (nwY Y0 as) → AcOk Y0 as → Fr (pN 8) S0 S → wpX (d + 9) mX9_lots 61 [aR 8 0, aI (nI n), aU, aU, aL (lN x), aU, aI (nI t), aI (nI k), aU, aU] [] S P := by
  intro m
  induction m with
  | zero =>
    intro k as x t S hk hl ht hx hR x1 x2 ha hf
    have e : k = n := by omega
    subst e
    subst hR
    refine s_X9_lots_61 ?_
    simp (disch := omega) only [B_X9_lots_61, wi_iload, wi_iload_n, wi_icmp_ge, wi_ldc2_w, wi_lload, wi_lmul, wi_lrem, wi_lstore, wi_ldiv, wi_aload_n, wi_getfield, fldv_8_10, fds_8_10, cnt_8, wi_i2l, wi_l2i, wi_istore, fldv_8_20, fds_8_20, wi_invokevirtual, no0, no1, nz1, nz2, nz3, nz4, nz5, nz7, nz8, Classical.not_not, bz0, bz1, wi_nil, ld_0, ld_s, isIv_I, isLv_L, isRv_R, true_and, and_true, lset_0, lset_1, lset_s, avw_I, avw_L, avw_R, clr_cons, clr_nil, kst_0, kst_1, kstL_0, kstL_1, addk_I, pA_0, pA_s, pD_0, pD_s, wid_nil, wid_cons, rcv_c, putv_I, putv_L, List.length_cons, List.length_nil, List.set_cons_zero, List.set_cons_succ, not_false_eq_true, Nat.reduceMod, Nat.reduceDiv, Nat.reduceEqDiff, Nat.reduceLT, Nat.reduceLeDiff, Nat.reduceAdd, Nat.reduceSub, reduceIte, Nat.lt_irrefl, Nat.zero_ne_one, Nat.one_ne_zero, Nat.zero_add, List.nil_append, List.cons_append, Option.toList_some, Option.toList_none, forall_const, false_implies, true_implies, false_or, or_false, true_or, or_true, i_le, i_lt, i_eq, i_eq0, i_lt0, i_0le, i_0lt, i_le0, i_in1, i_cl, nI_add, pk_mul, pk_sub, i_div, i_rem, i_sh1, i_bit, i_or, i_and, i_andn, nt_le, nf_le, nt_lt, nf_lt, nt_eq, nf_eq, not_true_eq_false, and_self, and_false, false_and, eq_self, Bool.toNat_true, Bool.toNat_false, i_bool, i_bool1, Bool.false_eq_true, Bool.true_eq_false, reduceCtorEq, i_neg1, i_neg2, i_neg3, i_neg4, i_neg5, i_neg6, i_neg7, i_neg8, i_neg9, i_nega, i_negb, i_negc, i_max2, i_min2]
    try simp (disch := omega) only [no0, no1, nz1, nz2, nz3, nz4, nz5, nz7, nz8, Classical.not_not, bz0, bz1, wi_nil, ld_0, ld_s, isIv_I, isLv_L, isRv_R, true_and, and_true, lset_0, lset_1, lset_s, avw_I, avw_L, avw_R, clr_cons, clr_nil, kst_0, kst_1, kstL_0, kstL_1, addk_I, pA_0, pA_s, pD_0, pD_s, wid_nil, wid_cons, rcv_c, putv_I, putv_L, List.length_cons, List.length_nil, List.set_cons_zero, List.set_cons_succ, not_false_eq_true, Nat.reduceMod, Nat.reduceDiv, Nat.reduceEqDiff, Nat.reduceLT, Nat.reduceLeDiff, Nat.reduceAdd, Nat.reduceSub, reduceIte, Nat.lt_irrefl, Nat.zero_ne_one, Nat.one_ne_zero, Nat.zero_add, List.nil_append, List.cons_append, Option.toList_some, Option.toList_none, forall_const, false_implies, true_implies, false_or, or_false, true_or, or_true, i_le, i_lt, i_eq, i_eq0, i_lt0, i_0le, i_0lt, i_le0, i_in1, i_cl, nI_add, pk_mul, pk_sub, i_div, i_rem, i_sh1, i_bit, i_or, i_and, i_andn, nt_le, nf_le, nt_lt, nf_lt, nt_eq, nf_eq, not_true_eq_false, and_self, and_false, false_and, eq_self, Bool.toNat_true, Bool.toNat_false, i_bool, i_bool1, Bool.false_eq_true, Bool.true_eq_false, reduceCtorEq, i_neg1, i_neg2, i_neg3, i_neg4, i_neg5, i_neg6, i_neg7, i_neg8, i_neg9, i_nega, i_negb, i_negc, i_max2, i_min2, wi_nil]
    repeat (
      first
      | refine s_X9_lots_0 ?_
      | refine s_X9_lots_8 ?_
      | refine s_X9_lots_19 ?_
      | refine s_X9_lots_26 ?_
      | refine s_X9_lots_27 ?_
      | refine s_X9_lots_30 ?_
      | refine s_X9_lots_37 ?_
      | refine s_X9_lots_51 ?_
      | refine s_X9_lots_109 ?_
      | refine s_X9_lots_122 ?_
      | refine s_X9_lots_133 ?_
      | refine s_X9_lots_140 ?_
      | refine s_X9_lots_149 ?_
      simp (disch := omega) only [B_X9_lots_0, wi_aload_n, wi_iload_n, wi_iconst, wi_bipush, wi_invokestatic, B_X9_lots_8, wi_if_eq, wi_ldc_w, B_X9_lots_19, wi_goto, B_X9_lots_26, B_X9_lots_27, wi_invokevirtual, cnt_8, B_X9_lots_30, wi_istore_n, wi_if_ge, wi_ireturn, B_X9_lots_37, wi_getfield, fldv_8_22, fds_8_22, wi_iadd, wi_icmp_le, B_X9_lots_51, wi_i2l, wi_lstore, wi_istore, B_X9_lots_61, wi_iload, wi_icmp_ge, wi_ldc2_w, wi_lload, wi_lmul, wi_lrem, wi_ldiv, fldv_8_10, fds_8_10, wi_l2i, fldv_8_20, fds_8_20, B_X9_lots_109, wi_ishl, wi_ixor, wi_iand, B_X9_lots_122, B_X9_lots_133, B_X9_lots_140, wi_iinc, B_X9_lots_149, no0, no1, nz1, nz2, nz3, nz4, nz5, nz7, nz8, Classical.not_not, bz0, bz1, wi_nil, ld_0, ld_s, isIv_I, isLv_L, isRv_R, true_and, and_true, lset_0, lset_1, lset_s, avw_I, avw_L, avw_R, clr_cons, clr_nil, kst_0, kst_1, kstL_0, kstL_1, addk_I, pA_0, pA_s, pD_0, pD_s, wid_nil, wid_cons, rcv_c, putv_I, putv_L, List.length_cons, List.length_nil, List.set_cons_zero, List.set_cons_succ, not_false_eq_true, Nat.reduceMod, Nat.reduceDiv, Nat.reduceEqDiff, Nat.reduceLT, Nat.reduceLeDiff, Nat.reduceAdd, Nat.reduceSub, reduceIte, Nat.lt_irrefl, Nat.zero_ne_one, Nat.one_ne_zero, Nat.zero_add, List.nil_append, List.cons_append, Option.toList_some, Option.toList_none, forall_const, false_implies, true_implies, false_or, or_false, true_or, or_true, i_le, i_lt, i_eq, i_eq0, i_lt0, i_0le, i_0lt, i_le0, i_in1, i_cl, nI_add, pk_mul, pk_sub, i_div, i_rem, i_sh1, i_bit, i_or, i_and, i_andn, nt_le, nf_le, nt_lt, nf_lt, nt_eq, nf_eq, not_true_eq_false, and_self, and_false, false_and, eq_self, Bool.toNat_true, Bool.toNat_false, i_bool, i_bool1, Bool.false_eq_true, Bool.true_eq_false, reduceCtorEq, i_neg1, i_neg2, i_neg3, i_neg4, i_neg5, i_neg6, i_neg7, i_neg8, i_neg9, i_nega, i_negb, i_negc, i_max2, i_min2])
    exact q S x1 x2 hf
  | succ m ih =>
    intro k as x t S hk hl ht hx hR x1 x2 ha hf
    have hok : YOk 40 (nwY Y0 as) := YOk_mono (nwY_ok as 0 Y0 h0 ha.2) (by have := ha.1; omega)
    have hn0 : nwY Y0 as 6 0 = Y0 6 0 := nwY_n as Y0
    have hn5 := hok.1.1
    rw [lotR] at hR
    obtain ⟨g1, g2, g3, g4⟩ := lot_ok hok (lotN x) (by omega)
    have hb6 := bct_lt (s := lotS (nwY Y0 as) (lotN x)) (by omega)
    obtain ⟨-, r1, r3, r4, r5, r6⟩ := lot_ar hx (show 0 < nwY Y0 as 6 0 by omega) hn5
    have hmod : lotN x / 8 % nwY Y0 as 6 0 < nwY Y0 as 6 0 := Nat.mod_lt _ (by omega)
    have hch := (chY_sub hok (lotN x % 4)).1
    have h2s : 2 ^ (lotN x / 8 % nwY Y0 as 6 0) < 32 := p2i (by omega)
    have eS : chY (nwY Y0 as) (lotN x % 4) &&& (31 - 2 ^ (lotN x / 8 % nwY Y0 as 6 0)) = lotS (nwY Y0 as) (lotN x) := rfl
    refine s_X9_lots_61 ?_
    simp (disch := omega) only [B_X9_lots_61, wi_iload, wi_iload_n, wi_icmp_ge, wi_ldc2_w, wi_lload, wi_lmul, wi_lrem, wi_lstore, wi_ldiv, wi_aload_n, wi_getfield, fldv_8_10, fds_8_10, cnt_8, wi_i2l, wi_l2i, wi_istore, fldv_8_20, fds_8_20, wi_invokevirtual, no0, no1, nz1, nz2, nz3, nz4, nz5, nz7, nz8, Classical.not_not, bz0, bz1, wi_nil, ld_0, ld_s, isIv_I, isLv_L, isRv_R, true_and, and_true, lset_0, lset_1, lset_s, avw_I, avw_L, avw_R, clr_cons, clr_nil, kst_0, kst_1, kstL_0, kstL_1, addk_I, pA_0, pA_s, pD_0, pD_s, wid_nil, wid_cons, rcv_c, putv_I, putv_L, List.length_cons, List.length_nil, List.set_cons_zero, List.set_cons_succ, not_false_eq_true, Nat.reduceMod, Nat.reduceDiv, Nat.reduceEqDiff, Nat.reduceLT, Nat.reduceLeDiff, Nat.reduceAdd, Nat.reduceSub, reduceIte, Nat.lt_irrefl, Nat.zero_ne_one, Nat.one_ne_zero, Nat.zero_add, List.nil_append, List.cons_append, Option.toList_some, Option.toList_none, forall_const, false_implies, true_implies, false_or, or_false, true_or, or_true, i_le, i_lt, i_eq, i_eq0, i_lt0, i_0le, i_0lt, i_le0, i_in1, i_cl, nI_add, pk_mul, pk_sub, i_div, i_rem, i_sh1, i_bit, i_or, i_and, i_andn, nt_le, nf_le, nt_lt, nf_lt, nt_eq, nf_eq, not_true_eq_false, and_self, and_false, false_and, eq_self, Bool.toNat_true, Bool.toNat_false, i_bool, i_bool1, Bool.false_eq_true, Bool.true_eq_false, reduceCtorEq, i_neg1, i_neg2, i_neg3, i_neg4, i_neg5, i_neg6, i_neg7, i_neg8, i_neg9, i_nega, i_negb, i_negc, i_max2, i_min2, (m_n x2), lN_mul, r1, r3, nI_l, r4, r5, r6, ne_M, ne_8, ne_4, lN_i]
    refine c_byRule (Or.inl rfl) x2 hok (by decide) (by omega) ?_
    try simp (disch := omega) only [no0, no1, nz1, nz2, nz3, nz4, nz5, nz7, nz8, Classical.not_not, bz0, bz1, wi_nil, ld_0, ld_s, isIv_I, isLv_L, isRv_R, true_and, and_true, lset_0, lset_1, lset_s, avw_I, avw_L, avw_R, clr_cons, clr_nil, kst_0, kst_1, kstL_0, kstL_1, addk_I, pA_0, pA_s, pD_0, pD_s, wid_nil, wid_cons, rcv_c, putv_I, putv_L, List.length_cons, List.length_nil, List.set_cons_zero, List.set_cons_succ, not_false_eq_true, Nat.reduceMod, Nat.reduceDiv, Nat.reduceEqDiff, Nat.reduceLT, Nat.reduceLeDiff, Nat.reduceAdd, Nat.reduceSub, reduceIte, Nat.lt_irrefl, Nat.zero_ne_one, Nat.one_ne_zero, Nat.zero_add, List.nil_append, List.cons_append, Option.toList_some, Option.toList_none, forall_const, false_implies, true_implies, false_or, or_false, true_or, or_true, i_le, i_lt, i_eq, i_eq0, i_lt0, i_0le, i_0lt, i_le0, i_in1, i_cl, nI_add, pk_mul, pk_sub, i_div, i_rem, i_sh1, i_bit, i_or, i_and, i_andn, nt_le, nf_le, nt_lt, nf_lt, nt_eq, nf_eq, not_true_eq_false, and_self, and_false, false_and, eq_self, Bool.toNat_true, Bool.toNat_false, i_bool, i_bool1, Bool.false_eq_true, Bool.true_eq_false, reduceCtorEq, i_neg1, i_neg2, i_neg3, i_neg4, i_neg5, i_neg6, i_neg7, i_neg8, i_neg9, i_nega, i_negb, i_negc, i_max2, i_min2, eS, wi_nil]
    repeat (
      first
      | refine s_X9_lots_0 ?_
      | refine s_X9_lots_8 ?_
      | refine s_X9_lots_19 ?_
      | refine s_X9_lots_26 ?_
      | refine s_X9_lots_27 ?_
      | refine s_X9_lots_30 ?_
      | refine s_X9_lots_37 ?_
      | refine s_X9_lots_51 ?_
      | refine s_X9_lots_109 ?_
      | refine s_X9_lots_122 ?_
      | refine s_X9_lots_133 ?_
      | refine s_X9_lots_140 ?_
      | refine s_X9_lots_149 ?_
      simp (disch := omega) only [B_X9_lots_0, wi_aload_n, wi_iload_n, wi_iconst, wi_bipush, wi_invokestatic, B_X9_lots_8, wi_if_eq, wi_ldc_w, B_X9_lots_19, wi_goto, B_X9_lots_26, B_X9_lots_27, wi_invokevirtual, cnt_8, B_X9_lots_30, wi_istore_n, wi_if_ge, wi_ireturn, B_X9_lots_37, wi_getfield, fldv_8_22, fds_8_22, wi_iadd, wi_icmp_le, B_X9_lots_51, wi_i2l, wi_lstore, wi_istore, B_X9_lots_61, wi_iload, wi_icmp_ge, wi_ldc2_w, wi_lload, wi_lmul, wi_lrem, wi_ldiv, fldv_8_10, fds_8_10, wi_l2i, fldv_8_20, fds_8_20, B_X9_lots_109, wi_ishl, wi_ixor, wi_iand, B_X9_lots_122, B_X9_lots_133, B_X9_lots_140, wi_iinc, B_X9_lots_149, no0, no1, nz1, nz2, nz3, nz4, nz5, nz7, nz8, Classical.not_not, bz0, bz1, wi_nil, ld_0, ld_s, isIv_I, isLv_L, isRv_R, true_and, and_true, lset_0, lset_1, lset_s, avw_I, avw_L, avw_R, clr_cons, clr_nil, kst_0, kst_1, kstL_0, kstL_1, addk_I, pA_0, pA_s, pD_0, pD_s, wid_nil, wid_cons, rcv_c, putv_I, putv_L, List.length_cons, List.length_nil, List.set_cons_zero, List.set_cons_succ, not_false_eq_true, Nat.reduceMod, Nat.reduceDiv, Nat.reduceEqDiff, Nat.reduceLT, Nat.reduceLeDiff, Nat.reduceAdd, Nat.reduceSub, reduceIte, Nat.lt_irrefl, Nat.zero_ne_one, Nat.one_ne_zero, Nat.zero_add, List.nil_append, List.cons_append, Option.toList_some, Option.toList_none, forall_const, false_implies, true_implies, false_or, or_false, true_or, or_true, i_le, i_lt, i_eq, i_eq0, i_lt0, i_0le, i_0lt, i_le0, i_in1, i_cl, nI_add, pk_mul, pk_sub, i_div, i_rem, i_sh1, i_bit, i_or, i_and, i_andn, nt_le, nf_le, nt_lt, nf_lt, nt_eq, nf_eq, not_true_eq_false, and_self, and_false, false_and, eq_self, Bool.toNat_true, Bool.toNat_false, i_bool, i_bool1, Bool.false_eq_true, Bool.true_eq_false, reduceCtorEq, i_neg1, i_neg2, i_neg3, i_neg4, i_neg5, i_neg6, i_neg7, i_neg8, i_neg9, i_nega, i_negb, i_negc, i_max2, i_min2, eS])
    refine c_remember (by omega) x1.1 ?_
    try simp (disch := omega) only [no0, no1, nz1, nz2, nz3, nz4, nz5, nz7, nz8, Classical.not_not, bz0, bz1, wi_nil, ld_0, ld_s, isIv_I, isLv_L, isRv_R, true_and, and_true, lset_0, lset_1, lset_s, avw_I, avw_L, avw_R, clr_cons, clr_nil, kst_0, kst_1, kstL_0, kstL_1, addk_I, pA_0, pA_s, pD_0, pD_s, wid_nil, wid_cons, rcv_c, putv_I, putv_L, List.length_cons, List.length_nil, List.set_cons_zero, List.set_cons_succ, not_false_eq_true, Nat.reduceMod, Nat.reduceDiv, Nat.reduceEqDiff, Nat.reduceLT, Nat.reduceLeDiff, Nat.reduceAdd, Nat.reduceSub, reduceIte, Nat.lt_irrefl, Nat.zero_ne_one, Nat.one_ne_zero, Nat.zero_add, List.nil_append, List.cons_append, Option.toList_some, Option.toList_none, forall_const, false_implies, true_implies, false_or, or_false, true_or, or_true, i_le, i_lt, i_eq, i_eq0, i_lt0, i_0le, i_0lt, i_le0, i_in1, i_cl, nI_add, pk_mul, pk_sub, i_div, i_rem, i_sh1, i_bit, i_or, i_and, i_andn, nt_le, nf_le, nt_lt, nf_lt, nt_eq, nf_eq, not_true_eq_false, and_self, and_false, false_and, eq_self, Bool.toNat_true, Bool.toNat_false, i_bool, i_bool1, Bool.false_eq_true, Bool.true_eq_false, reduceCtorEq, i_neg1, i_neg2, i_neg3, i_neg4, i_neg5, i_neg6, i_neg7, i_neg8, i_neg9, i_nega, i_negb, i_negc, i_max2, i_min2, wi_nil]
    repeat (
      first
      | refine s_X9_lots_0 ?_
      | refine s_X9_lots_8 ?_
      | refine s_X9_lots_19 ?_
      | refine s_X9_lots_26 ?_
      | refine s_X9_lots_27 ?_
      | refine s_X9_lots_30 ?_
      | refine s_X9_lots_37 ?_
      | refine s_X9_lots_51 ?_
      | refine s_X9_lots_109 ?_
      | refine s_X9_lots_122 ?_
      | refine s_X9_lots_133 ?_
      | refine s_X9_lots_140 ?_
      | refine s_X9_lots_149 ?_
      simp (disch := omega) only [B_X9_lots_0, wi_aload_n, wi_iload_n, wi_iconst, wi_bipush, wi_invokestatic, B_X9_lots_8, wi_if_eq, wi_ldc_w, B_X9_lots_19, wi_goto, B_X9_lots_26, B_X9_lots_27, wi_invokevirtual, cnt_8, B_X9_lots_30, wi_istore_n, wi_if_ge, wi_ireturn, B_X9_lots_37, wi_getfield, fldv_8_22, fds_8_22, wi_iadd, wi_icmp_le, B_X9_lots_51, wi_i2l, wi_lstore, wi_istore, B_X9_lots_61, wi_iload, wi_icmp_ge, wi_ldc2_w, wi_lload, wi_lmul, wi_lrem, wi_ldiv, fldv_8_10, fds_8_10, wi_l2i, fldv_8_20, fds_8_20, B_X9_lots_109, wi_ishl, wi_ixor, wi_iand, B_X9_lots_122, B_X9_lots_133, B_X9_lots_140, wi_iinc, B_X9_lots_149, no0, no1, nz1, nz2, nz3, nz4, nz5, nz7, nz8, Classical.not_not, bz0, bz1, wi_nil, ld_0, ld_s, isIv_I, isLv_L, isRv_R, true_and, and_true, lset_0, lset_1, lset_s, avw_I, avw_L, avw_R, clr_cons, clr_nil, kst_0, kst_1, kstL_0, kstL_1, addk_I, pA_0, pA_s, pD_0, pD_s, wid_nil, wid_cons, rcv_c, putv_I, putv_L, List.length_cons, List.length_nil, List.set_cons_zero, List.set_cons_succ, not_false_eq_true, Nat.reduceMod, Nat.reduceDiv, Nat.reduceEqDiff, Nat.reduceLT, Nat.reduceLeDiff, Nat.reduceAdd, Nat.reduceSub, reduceIte, Nat.lt_irrefl, Nat.zero_ne_one, Nat.one_ne_zero, Nat.zero_add, List.nil_append, List.cons_append, Option.toList_some, Option.toList_none, forall_const, false_implies, true_implies, false_or, or_false, true_or, or_true, i_le, i_lt, i_eq, i_eq0, i_lt0, i_0le, i_0lt, i_le0, i_in1, i_cl, nI_add, pk_mul, pk_sub, i_div, i_rem, i_sh1, i_bit, i_or, i_and, i_andn, nt_le, nf_le, nt_lt, nf_lt, nt_eq, nf_eq, not_true_eq_false, and_self, and_false, false_and, eq_self, Bool.toNat_true, Bool.toNat_false, i_bool, i_bool1, Bool.false_eq_true, Bool.true_eq_false, reduceCtorEq, i_neg1, i_neg2, i_neg3, i_neg4, i_neg5, i_neg6, i_neg7, i_neg8, i_neg9, i_nega, i_negb, i_negc, i_max2, i_min2])
    have m0 : bct 0 = 0 := bct_0
    refine c_passes (Or.inl rfl) (Y := nwY Y0 as) x2 hok (by decide) (by omega) (by decide) (by omega) (fun U m2 fa => ?_)
    rw [g4] at m2
    try simp (disch := omega) only [no0, no1, nz1, nz2, nz3, nz4, nz5, nz7, nz8, Classical.not_not, bz0, bz1, wi_nil, ld_0, ld_s, isIv_I, isLv_L, isRv_R, true_and, and_true, lset_0, lset_1, lset_s, avw_I, avw_L, avw_R, clr_cons, clr_nil, kst_0, kst_1, kstL_0, kstL_1, addk_I, pA_0, pA_s, pD_0, pD_s, wid_nil, wid_cons, rcv_c, putv_I, putv_L, List.length_cons, List.length_nil, List.set_cons_zero, List.set_cons_succ, not_false_eq_true, Nat.reduceMod, Nat.reduceDiv, Nat.reduceEqDiff, Nat.reduceLT, Nat.reduceLeDiff, Nat.reduceAdd, Nat.reduceSub, reduceIte, Nat.lt_irrefl, Nat.zero_ne_one, Nat.one_ne_zero, Nat.zero_add, List.nil_append, List.cons_append, Option.toList_some, Option.toList_none, forall_const, false_implies, true_implies, false_or, or_false, true_or, or_true, i_le, i_lt, i_eq, i_eq0, i_lt0, i_0le, i_0lt, i_le0, i_in1, i_cl, nI_add, pk_mul, pk_sub, i_div, i_rem, i_sh1, i_bit, i_or, i_and, i_andn, nt_le, nf_le, nt_lt, nf_lt, nt_eq, nf_eq, not_true_eq_false, and_self, and_false, false_and, eq_self, Bool.toNat_true, Bool.toNat_false, i_bool, i_bool1, Bool.false_eq_true, Bool.true_eq_false, reduceCtorEq, i_neg1, i_neg2, i_neg3, i_neg4, i_neg5, i_neg6, i_neg7, i_neg8, i_neg9, i_nega, i_negb, i_negc, i_max2, i_min2, wi_nil]
    repeat (
      first
      | refine s_X9_lots_0 ?_
      | refine s_X9_lots_8 ?_
      | refine s_X9_lots_19 ?_
      | refine s_X9_lots_26 ?_
      | refine s_X9_lots_27 ?_
      | refine s_X9_lots_30 ?_
      | refine s_X9_lots_37 ?_
      | refine s_X9_lots_51 ?_
      | refine s_X9_lots_109 ?_
      | refine s_X9_lots_122 ?_
      | refine s_X9_lots_133 ?_
      | refine s_X9_lots_140 ?_
      | refine s_X9_lots_149 ?_
      simp (disch := omega) only [B_X9_lots_0, wi_aload_n, wi_iload_n, wi_iconst, wi_bipush, wi_invokestatic, B_X9_lots_8, wi_if_eq, wi_ldc_w, B_X9_lots_19, wi_goto, B_X9_lots_26, B_X9_lots_27, wi_invokevirtual, cnt_8, B_X9_lots_30, wi_istore_n, wi_if_ge, wi_ireturn, B_X9_lots_37, wi_getfield, fldv_8_22, fds_8_22, wi_iadd, wi_icmp_le, B_X9_lots_51, wi_i2l, wi_lstore, wi_istore, B_X9_lots_61, wi_iload, wi_icmp_ge, wi_ldc2_w, wi_lload, wi_lmul, wi_lrem, wi_ldiv, fldv_8_10, fds_8_10, wi_l2i, fldv_8_20, fds_8_20, B_X9_lots_109, wi_ishl, wi_ixor, wi_iand, B_X9_lots_122, B_X9_lots_133, B_X9_lots_140, wi_iinc, B_X9_lots_149, no0, no1, nz1, nz2, nz3, nz4, nz5, nz7, nz8, Classical.not_not, bz0, bz1, wi_nil, ld_0, ld_s, isIv_I, isLv_L, isRv_R, true_and, and_true, lset_0, lset_1, lset_s, avw_I, avw_L, avw_R, clr_cons, clr_nil, kst_0, kst_1, kstL_0, kstL_1, addk_I, pA_0, pA_s, pD_0, pD_s, wid_nil, wid_cons, rcv_c, putv_I, putv_L, List.length_cons, List.length_nil, List.set_cons_zero, List.set_cons_succ, not_false_eq_true, Nat.reduceMod, Nat.reduceDiv, Nat.reduceEqDiff, Nat.reduceLT, Nat.reduceLeDiff, Nat.reduceAdd, Nat.reduceSub, reduceIte, Nat.lt_irrefl, Nat.zero_ne_one, Nat.one_ne_zero, Nat.zero_add, List.nil_append, List.cons_append, Option.toList_some, Option.toList_none, forall_const, false_implies, true_implies, false_or, or_false, true_or, or_true, i_le, i_lt, i_eq, i_eq0, i_lt0, i_0le, i_0lt, i_le0, i_in1, i_cl, nI_add, pk_mul, pk_sub, i_div, i_rem, i_sh1, i_bit, i_or, i_and, i_andn, nt_le, nf_le, nt_lt, nf_lt, nt_eq, nf_eq, not_true_eq_false, and_self, and_false, false_and, eq_self, Bool.toNat_true, Bool.toNat_false, i_bool, i_bool1, Bool.false_eq_true, Bool.true_eq_false, reduceCtorEq, i_neg1, i_neg2, i_neg3, i_neg4, i_neg5, i_neg6, i_neg7, i_neg8, i_neg9, i_nega, i_negb, i_negc, i_max2, i_min2])
    refine c_bits (by omega) ?_
    try simp (disch := omega) only [no0, no1, nz1, nz2, nz3, nz4, nz5, nz7, nz8, Classical.not_not, bz0, bz1, wi_nil, ld_0, ld_s, isIv_I, isLv_L, isRv_R, true_and, and_true, lset_0, lset_1, lset_s, avw_I, avw_L, avw_R, clr_cons, clr_nil, kst_0, kst_1, kstL_0, kstL_1, addk_I, pA_0, pA_s, pD_0, pD_s, wid_nil, wid_cons, rcv_c, putv_I, putv_L, List.length_cons, List.length_nil, List.set_cons_zero, List.set_cons_succ, not_false_eq_true, Nat.reduceMod, Nat.reduceDiv, Nat.reduceEqDiff, Nat.reduceLT, Nat.reduceLeDiff, Nat.reduceAdd, Nat.reduceSub, reduceIte, Nat.lt_irrefl, Nat.zero_ne_one, Nat.one_ne_zero, Nat.zero_add, List.nil_append, List.cons_append, Option.toList_some, Option.toList_none, forall_const, false_implies, true_implies, false_or, or_false, true_or, or_true, i_le, i_lt, i_eq, i_eq0, i_lt0, i_0le, i_0lt, i_le0, i_in1, i_cl, nI_add, pk_mul, pk_sub, i_div, i_rem, i_sh1, i_bit, i_or, i_and, i_andn, nt_le, nf_le, nt_lt, nf_lt, nt_eq, nf_eq, not_true_eq_false, and_self, and_false, false_and, eq_self, Bool.toNat_true, Bool.toNat_false, i_bool, i_bool1, Bool.false_eq_true, Bool.true_eq_false, reduceCtorEq, i_neg1, i_neg2, i_neg3, i_neg4, i_neg5, i_neg6, i_neg7, i_neg8, i_neg9, i_nega, i_negb, i_negc, i_max2, i_min2, wi_nil]
    repeat (
      first
      | refine s_X9_lots_0 ?_
      | refine s_X9_lots_8 ?_
      | refine s_X9_lots_19 ?_
      | refine s_X9_lots_26 ?_
      | refine s_X9_lots_27 ?_
      | refine s_X9_lots_30 ?_
      | refine s_X9_lots_37 ?_
      | refine s_X9_lots_51 ?_
      | refine s_X9_lots_109 ?_
      | refine s_X9_lots_122 ?_
      | refine s_X9_lots_133 ?_
      | refine s_X9_lots_140 ?_
      | refine s_X9_lots_149 ?_
      simp (disch := omega) only [B_X9_lots_0, wi_aload_n, wi_iload_n, wi_iconst, wi_bipush, wi_invokestatic, B_X9_lots_8, wi_if_eq, wi_ldc_w, B_X9_lots_19, wi_goto, B_X9_lots_26, B_X9_lots_27, wi_invokevirtual, cnt_8, B_X9_lots_30, wi_istore_n, wi_if_ge, wi_ireturn, B_X9_lots_37, wi_getfield, fldv_8_22, fds_8_22, wi_iadd, wi_icmp_le, B_X9_lots_51, wi_i2l, wi_lstore, wi_istore, B_X9_lots_61, wi_iload, wi_icmp_ge, wi_ldc2_w, wi_lload, wi_lmul, wi_lrem, wi_ldiv, fldv_8_10, fds_8_10, wi_l2i, fldv_8_20, fds_8_20, B_X9_lots_109, wi_ishl, wi_ixor, wi_iand, B_X9_lots_122, B_X9_lots_133, B_X9_lots_140, wi_iinc, B_X9_lots_149, no0, no1, nz1, nz2, nz3, nz4, nz5, nz7, nz8, Classical.not_not, bz0, bz1, wi_nil, ld_0, ld_s, isIv_I, isLv_L, isRv_R, true_and, and_true, lset_0, lset_1, lset_s, avw_I, avw_L, avw_R, clr_cons, clr_nil, kst_0, kst_1, kstL_0, kstL_1, addk_I, pA_0, pA_s, pD_0, pD_s, wid_nil, wid_cons, rcv_c, putv_I, putv_L, List.length_cons, List.length_nil, List.set_cons_zero, List.set_cons_succ, not_false_eq_true, Nat.reduceMod, Nat.reduceDiv, Nat.reduceEqDiff, Nat.reduceLT, Nat.reduceLeDiff, Nat.reduceAdd, Nat.reduceSub, reduceIte, Nat.lt_irrefl, Nat.zero_ne_one, Nat.one_ne_zero, Nat.zero_add, List.nil_append, List.cons_append, Option.toList_some, Option.toList_none, forall_const, false_implies, true_implies, false_or, or_false, true_or, or_true, i_le, i_lt, i_eq, i_eq0, i_lt0, i_0le, i_0lt, i_le0, i_in1, i_cl, nI_add, pk_mul, pk_sub, i_div, i_rem, i_sh1, i_bit, i_or, i_and, i_andn, nt_le, nf_le, nt_lt, nf_lt, nt_eq, nf_eq, not_true_eq_false, and_self, and_false, false_and, eq_self, Bool.toNat_true, Bool.toNat_false, i_bool, i_bool1, Bool.false_eq_true, Bool.true_eq_false, reduceCtorEq, i_neg1, i_neg2, i_neg3, i_neg4, i_neg5, i_neg6, i_neg7, i_neg8, i_neg9, i_nega, i_negb, i_negc, i_max2, i_min2])
    refine ih (k + 1) _ (lotN x) _ U (by omega) (by rw [List.length_append]; show as.length + 1 + m ≤ 40; omega) (by omega) (lotN_lt x) hR (mlg_step h0.1.1 x1 x2.2 ((fa.1 8 0 22).trans rfl) ((fa.2.2 42 0 (by decide)).trans rfl)) (by rw [nwY_app, g3]; exact m2) (ac_app ha (by omega) g2) (((hf.trans (fr_sA rfl)).trans (fr_sI rfl)).trans (f3_fa fa))
theorem o_lots {n v : Int32} (h : Rr S) : wpM (d + 10) mX8_lots [aR 7 0, aI n, aI v] S (PX d mX9_lots [aI n, aI v]) := by
  obtain ⟨Y0, as, kp, h3, hok, hy, hm, hl⟩ := r_acts h
  have hx := h3.1.2.2.1
  have hlg := h3.2.1.2.1
  have hac := h3.2.2.2.1
  have h0 := h3.2.2.1
  have hnn : nwY Y0 as 6 0 = Y0 6 0 := nwY_n as Y0
  have hn5 := hok.1.1
  have key0 : wpM (d + 10) mX9_lots [aR 8 0, aI n, aI v] S (PM (-nI 1)) → wpX (d + 9) mX8_lots 23 [aU, aU, aU, aU, aU, aU, aU, aU, aU] [] S (PX d mX9_lots [aI n, aI v]) := by
    intro k
    try simp (disch := omega) only [no0, no1, nz1, nz2, nz3, nz4, nz5, nz7, nz8, Classical.not_not, bz0, bz1, wi_nil, ld_0, ld_s, isIv_I, isLv_L, isRv_R, true_and, and_true, lset_0, lset_1, lset_s, avw_I, avw_L, avw_R, clr_cons, clr_nil, kst_0, kst_1, kstL_0, kstL_1, addk_I, pA_0, pA_s, pD_0, pD_s, wid_nil, wid_cons, rcv_c, putv_I, putv_L, List.length_cons, List.length_nil, List.set_cons_zero, List.set_cons_succ, not_false_eq_true, Nat.reduceMod, Nat.reduceDiv, Nat.reduceEqDiff, Nat.reduceLT, Nat.reduceLeDiff, Nat.reduceAdd, Nat.reduceSub, reduceIte, Nat.lt_irrefl, Nat.zero_ne_one, Nat.one_ne_zero, Nat.zero_add, List.nil_append, List.cons_append, Option.toList_some, Option.toList_none, forall_const, false_implies, true_implies, false_or, or_false, true_or, or_true, i_le, i_lt, i_eq, i_eq0, i_lt0, i_0le, i_0lt, i_le0, i_in1, i_cl, nI_add, pk_mul, pk_sub, i_div, i_rem, i_sh1, i_bit, i_or, i_and, i_andn, nt_le, nf_le, nt_lt, nf_lt, nt_eq, nf_eq, not_true_eq_false, and_self, and_false, false_and, eq_self, Bool.toNat_true, Bool.toNat_false, i_bool, i_bool1, Bool.false_eq_true, Bool.true_eq_false, reduceCtorEq, i_neg1, i_neg2, i_neg3, i_neg4, i_neg5, i_neg6, i_neg7, i_neg8, i_neg9, i_nega, i_negb, i_negc, i_max2, i_min2, wi_nil]
    repeat (
      first
      | refine s_X8_lots_0 ?_
      | refine s_X8_lots_23 ?_
      | refine s_X8_lots_25 ?_
      | refine s_X8_lots_38 ?_
      | refine s_X8_lots_46 ?_
      | refine s_X8_lots_52 ?_
      | refine s_X8_lots_107 ?_
      | refine s_X8_lots_124 ?_
      | refine s_X8_lots_127 ?_
      | refine s_X8_lots_134 ?_
      | refine s_X8_lots_143 ?_
      simp (disch := omega) only [B_X8_lots_0, wi_iload_n, wi_iconst, wi_icmp_lt, wi_bipush, wi_icmp_gt, wi_ldc_w, B_X8_lots_23, wi_ireturn, B_X8_lots_25, wi_aload_n, wi_getfield, fldv_7_3, fds_7_3, cnt_7, fldv_6_7, fds_6_7, cnt_6, wi_if_gt, B_X8_lots_38, fldv_7_6, fds_7_6, wi_invokevirtual, cnt_0, B_X8_lots_46, wi_if_ne, B_X8_lots_52, wi_i2l, wi_lstore_n, wi_istore, B_X8_lots_61, wi_iload, wi_icmp_ge, wi_lload_n, wi_ldc2_w, wi_lmul, wi_lrem, wi_ldiv, wi_l2i, B_X8_lots_107, wi_ishl, wi_ixor, wi_iand, wi_invokestatic, B_X8_lots_124, B_X8_lots_127, B_X8_lots_134, wi_iadd, wi_iinc, wi_goto, B_X8_lots_143, no0, no1, nz1, nz2, nz3, nz4, nz5, nz7, nz8, Classical.not_not, bz0, bz1, wi_nil, ld_0, ld_s, isIv_I, isLv_L, isRv_R, true_and, and_true, lset_0, lset_1, lset_s, avw_I, avw_L, avw_R, clr_cons, clr_nil, kst_0, kst_1, kstL_0, kstL_1, addk_I, pA_0, pA_s, pD_0, pD_s, wid_nil, wid_cons, rcv_c, putv_I, putv_L, List.length_cons, List.length_nil, List.set_cons_zero, List.set_cons_succ, not_false_eq_true, Nat.reduceMod, Nat.reduceDiv, Nat.reduceEqDiff, Nat.reduceLT, Nat.reduceLeDiff, Nat.reduceAdd, Nat.reduceSub, reduceIte, Nat.lt_irrefl, Nat.zero_ne_one, Nat.one_ne_zero, Nat.zero_add, List.nil_append, List.cons_append, Option.toList_some, Option.toList_none, forall_const, false_implies, true_implies, false_or, or_false, true_or, or_true, i_le, i_lt, i_eq, i_eq0, i_lt0, i_0le, i_0lt, i_le0, i_in1, i_cl, nI_add, pk_mul, pk_sub, i_div, i_rem, i_sh1, i_bit, i_or, i_and, i_andn, nt_le, nf_le, nt_lt, nf_lt, nt_eq, nf_eq, not_true_eq_false, and_self, and_false, false_and, eq_self, Bool.toNat_true, Bool.toNat_false, i_bool, i_bool1, Bool.false_eq_true, Bool.true_eq_false, reduceCtorEq, i_neg1, i_neg2, i_neg3, i_neg4, i_neg5, i_neg6, i_neg7, i_neg8, i_neg9, i_nega, i_negb, i_negc, i_max2, i_min2])
    exact px k
  have hnr := fb_rng n
  have hvr := fb_rng v
  have e1 : (nI 1).toInt = 1 := nI_toInt (by decide)
  have e20 : (nI 20).toInt = 20 := nI_toInt (by decide)
  have eM : (nI 2147483647).toInt = 2147483647 := nI_toInt (by decide)
  have eM6 : (nI 2147483646).toInt = 2147483646 := nI_toInt (by decide)
  by_cases h1 : nI 1 ≤ n ∧ n ≤ nI 20
  · by_cases h2 : nI 1 ≤ v ∧ v ≤ nI 2147483646
    · rw [Int32.le_iff_toInt_le, Int32.le_iff_toInt_le, e1, e20] at h1
      rw [Int32.le_iff_toInt_le, Int32.le_iff_toInt_le, e1, eM6] at h2
      obtain ⟨n, n1, n20, rfl⟩ : ∃ g : Nat, 1 ≤ g ∧ g ≤ 20 ∧ n = nI g := ⟨n.toInt.toNat, by omega, by omega, Int32.toInt_inj.mp (by rw [nI_toInt (by omega)]; omega)⟩
      obtain ⟨v, v1, v20, rfl⟩ : ∃ g : Nat, 1 ≤ g ∧ g ≤ 2147483646 ∧ v = nI g := ⟨v.toInt.toNat, by omega, by omega, Int32.toInt_inj.mp (by rw [nI_toInt (by omega)]; omega)⟩
      have c1 : (nI v < nI 1) = False := eq_false (fun q => by rw [Int32.lt_iff_toInt_lt, e1, nI_toInt (by omega)] at q; omega)
      have c2 : (nI v < nI 2147483647) = True := eq_true (by rw [Int32.lt_iff_toInt_lt, eM, nI_toInt (by omega)]; omega)
      have mb1 : (nI 1 ≤ nI n ∧ nI n ≤ nI 20) ↔ true = true := ⟨fun _ => rfl, fun _ => by rw [i_le (by decide) (by omega), i_le (by omega) (by decide)]; omega⟩
      have mb2 : (nI 1 ≤ nI v ∧ nI v ≤ nI 2147483646) ↔ true = true := ⟨fun _ => rfl, fun _ => by rw [Int32.le_iff_toInt_le, Int32.le_iff_toInt_le, e1, eM6, nI_toInt (by omega)]; omega⟩
      rcases Nat.eq_zero_or_pos (nwY Y0 as 6 0) with e0 | e0
      · refine x_entry (ls2 := [aR 7 0, aI (nI n), aI (nI v), aU, aU, aU, aU, aU, aU]) (Nat.le_of_ble_eq_true rfl) pl_8 rfl (Nat.le_of_ble_eq_true rfl) ?_
        try simp (disch := omega) only [no0, no1, nz1, nz2, nz3, nz4, nz5, nz7, nz8, Classical.not_not, bz0, bz1, wi_nil, ld_0, ld_s, isIv_I, isLv_L, isRv_R, true_and, and_true, lset_0, lset_1, lset_s, avw_I, avw_L, avw_R, clr_cons, clr_nil, kst_0, kst_1, kstL_0, kstL_1, addk_I, pA_0, pA_s, pD_0, pD_s, wid_nil, wid_cons, rcv_c, putv_I, putv_L, List.length_cons, List.length_nil, List.set_cons_zero, List.set_cons_succ, not_false_eq_true, Nat.reduceMod, Nat.reduceDiv, Nat.reduceEqDiff, Nat.reduceLT, Nat.reduceLeDiff, Nat.reduceAdd, Nat.reduceSub, reduceIte, Nat.lt_irrefl, Nat.zero_ne_one, Nat.one_ne_zero, Nat.zero_add, List.nil_append, List.cons_append, Option.toList_some, Option.toList_none, forall_const, false_implies, true_implies, false_or, or_false, true_or, or_true, i_le, i_lt, i_eq, i_eq0, i_lt0, i_0le, i_0lt, i_le0, i_in1, i_cl, nI_add, pk_mul, pk_sub, i_div, i_rem, i_sh1, i_bit, i_or, i_and, i_andn, nt_le, nf_le, nt_lt, nf_lt, nt_eq, nf_eq, not_true_eq_false, and_self, and_false, false_and, eq_self, Bool.toNat_true, Bool.toNat_false, i_bool, i_bool1, Bool.false_eq_true, Bool.true_eq_false, reduceCtorEq, i_neg1, i_neg2, i_neg3, i_neg4, i_neg5, i_neg6, i_neg7, i_neg8, i_neg9, i_nega, i_negb, i_negc, i_max2, i_min2, c1, c2, (y_n hy), wi_nil]
        repeat (
          first
          | refine s_X8_lots_0 ?_
          | refine s_X8_lots_23 ?_
          | refine s_X8_lots_25 ?_
          | refine s_X8_lots_38 ?_
          | refine s_X8_lots_46 ?_
          | refine s_X8_lots_52 ?_
          | refine s_X8_lots_107 ?_
          | refine s_X8_lots_124 ?_
          | refine s_X8_lots_127 ?_
          | refine s_X8_lots_134 ?_
          | refine s_X8_lots_143 ?_
          simp (disch := omega) only [B_X8_lots_0, wi_iload_n, wi_iconst, wi_icmp_lt, wi_bipush, wi_icmp_gt, wi_ldc_w, B_X8_lots_23, wi_ireturn, B_X8_lots_25, wi_aload_n, wi_getfield, fldv_7_3, fds_7_3, cnt_7, fldv_6_7, fds_6_7, cnt_6, wi_if_gt, B_X8_lots_38, fldv_7_6, fds_7_6, wi_invokevirtual, cnt_0, B_X8_lots_46, wi_if_ne, B_X8_lots_52, wi_i2l, wi_lstore_n, wi_istore, B_X8_lots_61, wi_iload, wi_icmp_ge, wi_lload_n, wi_ldc2_w, wi_lmul, wi_lrem, wi_ldiv, wi_l2i, B_X8_lots_107, wi_ishl, wi_ixor, wi_iand, wi_invokestatic, B_X8_lots_124, B_X8_lots_127, B_X8_lots_134, wi_iadd, wi_iinc, wi_goto, B_X8_lots_143, no0, no1, nz1, nz2, nz3, nz4, nz5, nz7, nz8, Classical.not_not, bz0, bz1, wi_nil, ld_0, ld_s, isIv_I, isLv_L, isRv_R, true_and, and_true, lset_0, lset_1, lset_s, avw_I, avw_L, avw_R, clr_cons, clr_nil, kst_0, kst_1, kstL_0, kstL_1, addk_I, pA_0, pA_s, pD_0, pD_s, wid_nil, wid_cons, rcv_c, putv_I, putv_L, List.length_cons, List.length_nil, List.set_cons_zero, List.set_cons_succ, not_false_eq_true, Nat.reduceMod, Nat.reduceDiv, Nat.reduceEqDiff, Nat.reduceLT, Nat.reduceLeDiff, Nat.reduceAdd, Nat.reduceSub, reduceIte, Nat.lt_irrefl, Nat.zero_ne_one, Nat.one_ne_zero, Nat.zero_add, List.nil_append, List.cons_append, Option.toList_some, Option.toList_none, forall_const, false_implies, true_implies, false_or, or_false, true_or, or_true, i_le, i_lt, i_eq, i_eq0, i_lt0, i_0le, i_0lt, i_le0, i_in1, i_cl, nI_add, pk_mul, pk_sub, i_div, i_rem, i_sh1, i_bit, i_or, i_and, i_andn, nt_le, nf_le, nt_lt, nf_lt, nt_eq, nf_eq, not_true_eq_false, and_self, and_false, false_and, eq_self, Bool.toNat_true, Bool.toNat_false, i_bool, i_bool1, Bool.false_eq_true, Bool.true_eq_false, reduceCtorEq, i_neg1, i_neg2, i_neg3, i_neg4, i_neg5, i_neg6, i_neg7, i_neg8, i_neg9, i_nega, i_negb, i_negc, i_max2, i_min2, c1, c2, (y_n hy)])
        refine px ?_
        refine x_entry (ls2 := [aR 8 0, aI (nI n), aI (nI v), aU, aU, aU, aU, aU, aU, aU]) (Nat.le_of_ble_eq_true rfl) pl_9 rfl (Nat.le_of_ble_eq_true rfl) ?_
        try simp (disch := omega) only [no0, no1, nz1, nz2, nz3, nz4, nz5, nz7, nz8, Classical.not_not, bz0, bz1, wi_nil, ld_0, ld_s, isIv_I, isLv_L, isRv_R, true_and, and_true, lset_0, lset_1, lset_s, avw_I, avw_L, avw_R, clr_cons, clr_nil, kst_0, kst_1, kstL_0, kstL_1, addk_I, pA_0, pA_s, pD_0, pD_s, wid_nil, wid_cons, rcv_c, putv_I, putv_L, List.length_cons, List.length_nil, List.set_cons_zero, List.set_cons_succ, not_false_eq_true, Nat.reduceMod, Nat.reduceDiv, Nat.reduceEqDiff, Nat.reduceLT, Nat.reduceLeDiff, Nat.reduceAdd, Nat.reduceSub, reduceIte, Nat.lt_irrefl, Nat.zero_ne_one, Nat.one_ne_zero, Nat.zero_add, List.nil_append, List.cons_append, Option.toList_some, Option.toList_none, forall_const, false_implies, true_implies, false_or, or_false, true_or, or_true, i_le, i_lt, i_eq, i_eq0, i_lt0, i_0le, i_0lt, i_le0, i_in1, i_cl, nI_add, pk_mul, pk_sub, i_div, i_rem, i_sh1, i_bit, i_or, i_and, i_andn, nt_le, nf_le, nt_lt, nf_lt, nt_eq, nf_eq, not_true_eq_false, and_self, and_false, false_and, eq_self, Bool.toNat_true, Bool.toNat_false, i_bool, i_bool1, Bool.false_eq_true, Bool.true_eq_false, reduceCtorEq, i_neg1, i_neg2, i_neg3, i_neg4, i_neg5, i_neg6, i_neg7, i_neg8, i_neg9, i_nega, i_negb, i_negc, i_max2, i_min2, wi_nil]
        repeat (
          first
          | refine s_X9_lots_0 ?_
          | refine s_X9_lots_8 ?_
          | refine s_X9_lots_19 ?_
          | refine s_X9_lots_26 ?_
          | refine s_X9_lots_27 ?_
          | refine s_X9_lots_30 ?_
          | refine s_X9_lots_37 ?_
          | refine s_X9_lots_51 ?_
          | refine s_X9_lots_109 ?_
          | refine s_X9_lots_122 ?_
          | refine s_X9_lots_133 ?_
          | refine s_X9_lots_140 ?_
          | refine s_X9_lots_149 ?_
          simp (disch := omega) only [B_X9_lots_0, wi_aload_n, wi_iload_n, wi_iconst, wi_bipush, wi_invokestatic, B_X9_lots_8, wi_if_eq, wi_ldc_w, B_X9_lots_19, wi_goto, B_X9_lots_26, B_X9_lots_27, wi_invokevirtual, cnt_8, B_X9_lots_30, wi_istore_n, wi_if_ge, wi_ireturn, B_X9_lots_37, wi_getfield, fldv_8_22, fds_8_22, wi_iadd, wi_icmp_le, B_X9_lots_51, wi_i2l, wi_lstore, wi_istore, B_X9_lots_61, wi_iload, wi_icmp_ge, wi_ldc2_w, wi_lload, wi_lmul, wi_lrem, wi_ldiv, fldv_8_10, fds_8_10, wi_l2i, fldv_8_20, fds_8_20, B_X9_lots_109, wi_ishl, wi_ixor, wi_iand, B_X9_lots_122, B_X9_lots_133, B_X9_lots_140, wi_iinc, B_X9_lots_149, no0, no1, nz1, nz2, nz3, nz4, nz5, nz7, nz8, Classical.not_not, bz0, bz1, wi_nil, ld_0, ld_s, isIv_I, isLv_L, isRv_R, true_and, and_true, lset_0, lset_1, lset_s, avw_I, avw_L, avw_R, clr_cons, clr_nil, kst_0, kst_1, kstL_0, kstL_1, addk_I, pA_0, pA_s, pD_0, pD_s, wid_nil, wid_cons, rcv_c, putv_I, putv_L, List.length_cons, List.length_nil, List.set_cons_zero, List.set_cons_succ, not_false_eq_true, Nat.reduceMod, Nat.reduceDiv, Nat.reduceEqDiff, Nat.reduceLT, Nat.reduceLeDiff, Nat.reduceAdd, Nat.reduceSub, reduceIte, Nat.lt_irrefl, Nat.zero_ne_one, Nat.one_ne_zero, Nat.zero_add, List.nil_append, List.cons_append, Option.toList_some, Option.toList_none, forall_const, false_implies, true_implies, false_or, or_false, true_or, or_true, i_le, i_lt, i_eq, i_eq0, i_lt0, i_0le, i_0lt, i_le0, i_in1, i_cl, nI_add, pk_mul, pk_sub, i_div, i_rem, i_sh1, i_bit, i_or, i_and, i_andn, nt_le, nf_le, nt_lt, nf_lt, nt_eq, nf_eq, not_true_eq_false, and_self, and_false, false_and, eq_self, Bool.toNat_true, Bool.toNat_false, i_bool, i_bool1, Bool.false_eq_true, Bool.true_eq_false, reduceCtorEq, i_neg1, i_neg2, i_neg3, i_neg4, i_neg5, i_neg6, i_neg7, i_neg8, i_neg9, i_nega, i_negb, i_negc, i_max2, i_min2])
        refine c_in mb1 ?_
        try simp (disch := omega) only [no0, no1, nz1, nz2, nz3, nz4, nz5, nz7, nz8, Classical.not_not, bz0, bz1, wi_nil, ld_0, ld_s, isIv_I, isLv_L, isRv_R, true_and, and_true, lset_0, lset_1, lset_s, avw_I, avw_L, avw_R, clr_cons, clr_nil, kst_0, kst_1, kstL_0, kstL_1, addk_I, pA_0, pA_s, pD_0, pD_s, wid_nil, wid_cons, rcv_c, putv_I, putv_L, List.length_cons, List.length_nil, List.set_cons_zero, List.set_cons_succ, not_false_eq_true, Nat.reduceMod, Nat.reduceDiv, Nat.reduceEqDiff, Nat.reduceLT, Nat.reduceLeDiff, Nat.reduceAdd, Nat.reduceSub, reduceIte, Nat.lt_irrefl, Nat.zero_ne_one, Nat.one_ne_zero, Nat.zero_add, List.nil_append, List.cons_append, Option.toList_some, Option.toList_none, forall_const, false_implies, true_implies, false_or, or_false, true_or, or_true, i_le, i_lt, i_eq, i_eq0, i_lt0, i_0le, i_0lt, i_le0, i_in1, i_cl, nI_add, pk_mul, pk_sub, i_div, i_rem, i_sh1, i_bit, i_or, i_and, i_andn, nt_le, nf_le, nt_lt, nf_lt, nt_eq, nf_eq, not_true_eq_false, and_self, and_false, false_and, eq_self, Bool.toNat_true, Bool.toNat_false, i_bool, i_bool1, Bool.false_eq_true, Bool.true_eq_false, reduceCtorEq, i_neg1, i_neg2, i_neg3, i_neg4, i_neg5, i_neg6, i_neg7, i_neg8, i_neg9, i_nega, i_negb, i_negc, i_max2, i_min2, wi_nil]
        repeat (
          first
          | refine s_X9_lots_0 ?_
          | refine s_X9_lots_8 ?_
          | refine s_X9_lots_19 ?_
          | refine s_X9_lots_26 ?_
          | refine s_X9_lots_27 ?_
          | refine s_X9_lots_30 ?_
          | refine s_X9_lots_37 ?_
          | refine s_X9_lots_51 ?_
          | refine s_X9_lots_109 ?_
          | refine s_X9_lots_122 ?_
          | refine s_X9_lots_133 ?_
          | refine s_X9_lots_140 ?_
          | refine s_X9_lots_149 ?_
          simp (disch := omega) only [B_X9_lots_0, wi_aload_n, wi_iload_n, wi_iconst, wi_bipush, wi_invokestatic, B_X9_lots_8, wi_if_eq, wi_ldc_w, B_X9_lots_19, wi_goto, B_X9_lots_26, B_X9_lots_27, wi_invokevirtual, cnt_8, B_X9_lots_30, wi_istore_n, wi_if_ge, wi_ireturn, B_X9_lots_37, wi_getfield, fldv_8_22, fds_8_22, wi_iadd, wi_icmp_le, B_X9_lots_51, wi_i2l, wi_lstore, wi_istore, B_X9_lots_61, wi_iload, wi_icmp_ge, wi_ldc2_w, wi_lload, wi_lmul, wi_lrem, wi_ldiv, fldv_8_10, fds_8_10, wi_l2i, fldv_8_20, fds_8_20, B_X9_lots_109, wi_ishl, wi_ixor, wi_iand, B_X9_lots_122, B_X9_lots_133, B_X9_lots_140, wi_iinc, B_X9_lots_149, no0, no1, nz1, nz2, nz3, nz4, nz5, nz7, nz8, Classical.not_not, bz0, bz1, wi_nil, ld_0, ld_s, isIv_I, isLv_L, isRv_R, true_and, and_true, lset_0, lset_1, lset_s, avw_I, avw_L, avw_R, clr_cons, clr_nil, kst_0, kst_1, kstL_0, kstL_1, addk_I, pA_0, pA_s, pD_0, pD_s, wid_nil, wid_cons, rcv_c, putv_I, putv_L, List.length_cons, List.length_nil, List.set_cons_zero, List.set_cons_succ, not_false_eq_true, Nat.reduceMod, Nat.reduceDiv, Nat.reduceEqDiff, Nat.reduceLT, Nat.reduceLeDiff, Nat.reduceAdd, Nat.reduceSub, reduceIte, Nat.lt_irrefl, Nat.zero_ne_one, Nat.one_ne_zero, Nat.zero_add, List.nil_append, List.cons_append, Option.toList_some, Option.toList_none, forall_const, false_implies, true_implies, false_or, or_false, true_or, or_true, i_le, i_lt, i_eq, i_eq0, i_lt0, i_0le, i_0lt, i_le0, i_in1, i_cl, nI_add, pk_mul, pk_sub, i_div, i_rem, i_sh1, i_bit, i_or, i_and, i_andn, nt_le, nf_le, nt_lt, nf_lt, nt_eq, nf_eq, not_true_eq_false, and_self, and_false, false_and, eq_self, Bool.toNat_true, Bool.toNat_false, i_bool, i_bool1, Bool.false_eq_true, Bool.true_eq_false, reduceCtorEq, i_neg1, i_neg2, i_neg3, i_neg4, i_neg5, i_neg6, i_neg7, i_neg8, i_neg9, i_nega, i_negb, i_negc, i_max2, i_min2])
        refine c_in mb2 ?_
        try simp (disch := omega) only [no0, no1, nz1, nz2, nz3, nz4, nz5, nz7, nz8, Classical.not_not, bz0, bz1, wi_nil, ld_0, ld_s, isIv_I, isLv_L, isRv_R, true_and, and_true, lset_0, lset_1, lset_s, avw_I, avw_L, avw_R, clr_cons, clr_nil, kst_0, kst_1, kstL_0, kstL_1, addk_I, pA_0, pA_s, pD_0, pD_s, wid_nil, wid_cons, rcv_c, putv_I, putv_L, List.length_cons, List.length_nil, List.set_cons_zero, List.set_cons_succ, not_false_eq_true, Nat.reduceMod, Nat.reduceDiv, Nat.reduceEqDiff, Nat.reduceLT, Nat.reduceLeDiff, Nat.reduceAdd, Nat.reduceSub, reduceIte, Nat.lt_irrefl, Nat.zero_ne_one, Nat.one_ne_zero, Nat.zero_add, List.nil_append, List.cons_append, Option.toList_some, Option.toList_none, forall_const, false_implies, true_implies, false_or, or_false, true_or, or_true, i_le, i_lt, i_eq, i_eq0, i_lt0, i_0le, i_0lt, i_le0, i_in1, i_cl, nI_add, pk_mul, pk_sub, i_div, i_rem, i_sh1, i_bit, i_or, i_and, i_andn, nt_le, nf_le, nt_lt, nf_lt, nt_eq, nf_eq, not_true_eq_false, and_self, and_false, false_and, eq_self, Bool.toNat_true, Bool.toNat_false, i_bool, i_bool1, Bool.false_eq_true, Bool.true_eq_false, reduceCtorEq, i_neg1, i_neg2, i_neg3, i_neg4, i_neg5, i_neg6, i_neg7, i_neg8, i_neg9, i_nega, i_negb, i_negc, i_max2, i_min2, wi_nil]
        repeat (
          first
          | refine s_X9_lots_0 ?_
          | refine s_X9_lots_8 ?_
          | refine s_X9_lots_19 ?_
          | refine s_X9_lots_26 ?_
          | refine s_X9_lots_27 ?_
          | refine s_X9_lots_30 ?_
          | refine s_X9_lots_37 ?_
          | refine s_X9_lots_51 ?_
          | refine s_X9_lots_109 ?_
          | refine s_X9_lots_122 ?_
          | refine s_X9_lots_133 ?_
          | refine s_X9_lots_140 ?_
          | refine s_X9_lots_149 ?_
          simp (disch := omega) only [B_X9_lots_0, wi_aload_n, wi_iload_n, wi_iconst, wi_bipush, wi_invokestatic, B_X9_lots_8, wi_if_eq, wi_ldc_w, B_X9_lots_19, wi_goto, B_X9_lots_26, B_X9_lots_27, wi_invokevirtual, cnt_8, B_X9_lots_30, wi_istore_n, wi_if_ge, wi_ireturn, B_X9_lots_37, wi_getfield, fldv_8_22, fds_8_22, wi_iadd, wi_icmp_le, B_X9_lots_51, wi_i2l, wi_lstore, wi_istore, B_X9_lots_61, wi_iload, wi_icmp_ge, wi_ldc2_w, wi_lload, wi_lmul, wi_lrem, wi_ldiv, fldv_8_10, fds_8_10, wi_l2i, fldv_8_20, fds_8_20, B_X9_lots_109, wi_ishl, wi_ixor, wi_iand, B_X9_lots_122, B_X9_lots_133, B_X9_lots_140, wi_iinc, B_X9_lots_149, no0, no1, nz1, nz2, nz3, nz4, nz5, nz7, nz8, Classical.not_not, bz0, bz1, wi_nil, ld_0, ld_s, isIv_I, isLv_L, isRv_R, true_and, and_true, lset_0, lset_1, lset_s, avw_I, avw_L, avw_R, clr_cons, clr_nil, kst_0, kst_1, kstL_0, kstL_1, addk_I, pA_0, pA_s, pD_0, pD_s, wid_nil, wid_cons, rcv_c, putv_I, putv_L, List.length_cons, List.length_nil, List.set_cons_zero, List.set_cons_succ, not_false_eq_true, Nat.reduceMod, Nat.reduceDiv, Nat.reduceEqDiff, Nat.reduceLT, Nat.reduceLeDiff, Nat.reduceAdd, Nat.reduceSub, reduceIte, Nat.lt_irrefl, Nat.zero_ne_one, Nat.one_ne_zero, Nat.zero_add, List.nil_append, List.cons_append, Option.toList_some, Option.toList_none, forall_const, false_implies, true_implies, false_or, or_false, true_or, or_true, i_le, i_lt, i_eq, i_eq0, i_lt0, i_0le, i_0lt, i_le0, i_in1, i_cl, nI_add, pk_mul, pk_sub, i_div, i_rem, i_sh1, i_bit, i_or, i_and, i_andn, nt_le, nf_le, nt_lt, nf_lt, nt_eq, nf_eq, not_true_eq_false, and_self, and_false, false_and, eq_self, Bool.toNat_true, Bool.toNat_false, i_bool, i_bool1, Bool.false_eq_true, Bool.true_eq_false, reduceCtorEq, i_neg1, i_neg2, i_neg3, i_neg4, i_neg5, i_neg6, i_neg7, i_neg8, i_neg9, i_nega, i_negb, i_negc, i_max2, i_min2])
        refine c_needS hm e0 ?_
        try simp (disch := omega) only [no0, no1, nz1, nz2, nz3, nz4, nz5, nz7, nz8, Classical.not_not, bz0, bz1, wi_nil, ld_0, ld_s, isIv_I, isLv_L, isRv_R, true_and, and_true, lset_0, lset_1, lset_s, avw_I, avw_L, avw_R, clr_cons, clr_nil, kst_0, kst_1, kstL_0, kstL_1, addk_I, pA_0, pA_s, pD_0, pD_s, wid_nil, wid_cons, rcv_c, putv_I, putv_L, List.length_cons, List.length_nil, List.set_cons_zero, List.set_cons_succ, not_false_eq_true, Nat.reduceMod, Nat.reduceDiv, Nat.reduceEqDiff, Nat.reduceLT, Nat.reduceLeDiff, Nat.reduceAdd, Nat.reduceSub, reduceIte, Nat.lt_irrefl, Nat.zero_ne_one, Nat.one_ne_zero, Nat.zero_add, List.nil_append, List.cons_append, Option.toList_some, Option.toList_none, forall_const, false_implies, true_implies, false_or, or_false, true_or, or_true, i_le, i_lt, i_eq, i_eq0, i_lt0, i_0le, i_0lt, i_le0, i_in1, i_cl, nI_add, pk_mul, pk_sub, i_div, i_rem, i_sh1, i_bit, i_or, i_and, i_andn, nt_le, nf_le, nt_lt, nf_lt, nt_eq, nf_eq, not_true_eq_false, and_self, and_false, false_and, eq_self, Bool.toNat_true, Bool.toNat_false, i_bool, i_bool1, Bool.false_eq_true, Bool.true_eq_false, reduceCtorEq, i_neg1, i_neg2, i_neg3, i_neg4, i_neg5, i_neg6, i_neg7, i_neg8, i_neg9, i_nega, i_negb, i_negc, i_max2, i_min2, wi_nil]
        repeat (
          first
          | refine s_X9_lots_0 ?_
          | refine s_X9_lots_8 ?_
          | refine s_X9_lots_19 ?_
          | refine s_X9_lots_26 ?_
          | refine s_X9_lots_27 ?_
          | refine s_X9_lots_30 ?_
          | refine s_X9_lots_37 ?_
          | refine s_X9_lots_51 ?_
          | refine s_X9_lots_109 ?_
          | refine s_X9_lots_122 ?_
          | refine s_X9_lots_133 ?_
          | refine s_X9_lots_140 ?_
          | refine s_X9_lots_149 ?_
          simp (disch := omega) only [B_X9_lots_0, wi_aload_n, wi_iload_n, wi_iconst, wi_bipush, wi_invokestatic, B_X9_lots_8, wi_if_eq, wi_ldc_w, B_X9_lots_19, wi_goto, B_X9_lots_26, B_X9_lots_27, wi_invokevirtual, cnt_8, B_X9_lots_30, wi_istore_n, wi_if_ge, wi_ireturn, B_X9_lots_37, wi_getfield, fldv_8_22, fds_8_22, wi_iadd, wi_icmp_le, B_X9_lots_51, wi_i2l, wi_lstore, wi_istore, B_X9_lots_61, wi_iload, wi_icmp_ge, wi_ldc2_w, wi_lload, wi_lmul, wi_lrem, wi_ldiv, fldv_8_10, fds_8_10, wi_l2i, fldv_8_20, fds_8_20, B_X9_lots_109, wi_ishl, wi_ixor, wi_iand, B_X9_lots_122, B_X9_lots_133, B_X9_lots_140, wi_iinc, B_X9_lots_149, no0, no1, nz1, nz2, nz3, nz4, nz5, nz7, nz8, Classical.not_not, bz0, bz1, wi_nil, ld_0, ld_s, isIv_I, isLv_L, isRv_R, true_and, and_true, lset_0, lset_1, lset_s, avw_I, avw_L, avw_R, clr_cons, clr_nil, kst_0, kst_1, kstL_0, kstL_1, addk_I, pA_0, pA_s, pD_0, pD_s, wid_nil, wid_cons, rcv_c, putv_I, putv_L, List.length_cons, List.length_nil, List.set_cons_zero, List.set_cons_succ, not_false_eq_true, Nat.reduceMod, Nat.reduceDiv, Nat.reduceEqDiff, Nat.reduceLT, Nat.reduceLeDiff, Nat.reduceAdd, Nat.reduceSub, reduceIte, Nat.lt_irrefl, Nat.zero_ne_one, Nat.one_ne_zero, Nat.zero_add, List.nil_append, List.cons_append, Option.toList_some, Option.toList_none, forall_const, false_implies, true_implies, false_or, or_false, true_or, or_true, i_le, i_lt, i_eq, i_eq0, i_lt0, i_0le, i_0lt, i_le0, i_in1, i_cl, nI_add, pk_mul, pk_sub, i_div, i_rem, i_sh1, i_bit, i_or, i_and, i_andn, nt_le, nf_le, nt_lt, nf_lt, nt_eq, nf_eq, not_true_eq_false, and_self, and_false, false_and, eq_self, Bool.toNat_true, Bool.toNat_false, i_bool, i_bool1, Bool.false_eq_true, Bool.true_eq_false, reduceCtorEq, i_neg1, i_neg2, i_neg3, i_neg4, i_neg5, i_neg6, i_neg7, i_neg8, i_neg9, i_nega, i_negb, i_negc, i_max2, i_min2])
        exact pm h
      · by_cases c5 : 40 < as.length + n
        · refine x_entry (ls2 := [aR 7 0, aI (nI n), aI (nI v), aU, aU, aU, aU, aU, aU]) (Nat.le_of_ble_eq_true rfl) pl_8 rfl (Nat.le_of_ble_eq_true rfl) ?_
          try simp (disch := omega) only [no0, no1, nz1, nz2, nz3, nz4, nz5, nz7, nz8, Classical.not_not, bz0, bz1, wi_nil, ld_0, ld_s, isIv_I, isLv_L, isRv_R, true_and, and_true, lset_0, lset_1, lset_s, avw_I, avw_L, avw_R, clr_cons, clr_nil, kst_0, kst_1, kstL_0, kstL_1, addk_I, pA_0, pA_s, pD_0, pD_s, wid_nil, wid_cons, rcv_c, putv_I, putv_L, List.length_cons, List.length_nil, List.set_cons_zero, List.set_cons_succ, not_false_eq_true, Nat.reduceMod, Nat.reduceDiv, Nat.reduceEqDiff, Nat.reduceLT, Nat.reduceLeDiff, Nat.reduceAdd, Nat.reduceSub, reduceIte, Nat.lt_irrefl, Nat.zero_ne_one, Nat.one_ne_zero, Nat.zero_add, List.nil_append, List.cons_append, Option.toList_some, Option.toList_none, forall_const, false_implies, true_implies, false_or, or_false, true_or, or_true, i_le, i_lt, i_eq, i_eq0, i_lt0, i_0le, i_0lt, i_le0, i_in1, i_cl, nI_add, pk_mul, pk_sub, i_div, i_rem, i_sh1, i_bit, i_or, i_and, i_andn, nt_le, nf_le, nt_lt, nf_lt, nt_eq, nf_eq, not_true_eq_false, and_self, and_false, false_and, eq_self, Bool.toNat_true, Bool.toNat_false, i_bool, i_bool1, Bool.false_eq_true, Bool.true_eq_false, reduceCtorEq, i_neg1, i_neg2, i_neg3, i_neg4, i_neg5, i_neg6, i_neg7, i_neg8, i_neg9, i_nega, i_negb, i_negc, i_max2, i_min2, c1, c2, (y_n hy), wi_nil]
          repeat (
            first
            | refine s_X8_lots_0 ?_
            | refine s_X8_lots_23 ?_
            | refine s_X8_lots_25 ?_
            | refine s_X8_lots_38 ?_
            | refine s_X8_lots_46 ?_
            | refine s_X8_lots_52 ?_
            | refine s_X8_lots_107 ?_
            | refine s_X8_lots_124 ?_
            | refine s_X8_lots_127 ?_
            | refine s_X8_lots_134 ?_
            | refine s_X8_lots_143 ?_
            simp (disch := omega) only [B_X8_lots_0, wi_iload_n, wi_iconst, wi_icmp_lt, wi_bipush, wi_icmp_gt, wi_ldc_w, B_X8_lots_23, wi_ireturn, B_X8_lots_25, wi_aload_n, wi_getfield, fldv_7_3, fds_7_3, cnt_7, fldv_6_7, fds_6_7, cnt_6, wi_if_gt, B_X8_lots_38, fldv_7_6, fds_7_6, wi_invokevirtual, cnt_0, B_X8_lots_46, wi_if_ne, B_X8_lots_52, wi_i2l, wi_lstore_n, wi_istore, B_X8_lots_61, wi_iload, wi_icmp_ge, wi_lload_n, wi_ldc2_w, wi_lmul, wi_lrem, wi_ldiv, wi_l2i, B_X8_lots_107, wi_ishl, wi_ixor, wi_iand, wi_invokestatic, B_X8_lots_124, B_X8_lots_127, B_X8_lots_134, wi_iadd, wi_iinc, wi_goto, B_X8_lots_143, no0, no1, nz1, nz2, nz3, nz4, nz5, nz7, nz8, Classical.not_not, bz0, bz1, wi_nil, ld_0, ld_s, isIv_I, isLv_L, isRv_R, true_and, and_true, lset_0, lset_1, lset_s, avw_I, avw_L, avw_R, clr_cons, clr_nil, kst_0, kst_1, kstL_0, kstL_1, addk_I, pA_0, pA_s, pD_0, pD_s, wid_nil, wid_cons, rcv_c, putv_I, putv_L, List.length_cons, List.length_nil, List.set_cons_zero, List.set_cons_succ, not_false_eq_true, Nat.reduceMod, Nat.reduceDiv, Nat.reduceEqDiff, Nat.reduceLT, Nat.reduceLeDiff, Nat.reduceAdd, Nat.reduceSub, reduceIte, Nat.lt_irrefl, Nat.zero_ne_one, Nat.one_ne_zero, Nat.zero_add, List.nil_append, List.cons_append, Option.toList_some, Option.toList_none, forall_const, false_implies, true_implies, false_or, or_false, true_or, or_true, i_le, i_lt, i_eq, i_eq0, i_lt0, i_0le, i_0lt, i_le0, i_in1, i_cl, nI_add, pk_mul, pk_sub, i_div, i_rem, i_sh1, i_bit, i_or, i_and, i_andn, nt_le, nf_le, nt_lt, nf_lt, nt_eq, nf_eq, not_true_eq_false, and_self, and_false, false_and, eq_self, Bool.toNat_true, Bool.toNat_false, i_bool, i_bool1, Bool.false_eq_true, Bool.true_eq_false, reduceCtorEq, i_neg1, i_neg2, i_neg3, i_neg4, i_neg5, i_neg6, i_neg7, i_neg8, i_neg9, i_nega, i_negb, i_negc, i_max2, i_min2, c1, c2, (y_n hy)])
          refine c_haveRoom hx.1 hl (by omega) ?_
          rw [if_neg (by omega)]
          try simp (disch := omega) only [no0, no1, nz1, nz2, nz3, nz4, nz5, nz7, nz8, Classical.not_not, bz0, bz1, wi_nil, ld_0, ld_s, isIv_I, isLv_L, isRv_R, true_and, and_true, lset_0, lset_1, lset_s, avw_I, avw_L, avw_R, clr_cons, clr_nil, kst_0, kst_1, kstL_0, kstL_1, addk_I, pA_0, pA_s, pD_0, pD_s, wid_nil, wid_cons, rcv_c, putv_I, putv_L, List.length_cons, List.length_nil, List.set_cons_zero, List.set_cons_succ, not_false_eq_true, Nat.reduceMod, Nat.reduceDiv, Nat.reduceEqDiff, Nat.reduceLT, Nat.reduceLeDiff, Nat.reduceAdd, Nat.reduceSub, reduceIte, Nat.lt_irrefl, Nat.zero_ne_one, Nat.one_ne_zero, Nat.zero_add, List.nil_append, List.cons_append, Option.toList_some, Option.toList_none, forall_const, false_implies, true_implies, false_or, or_false, true_or, or_true, i_le, i_lt, i_eq, i_eq0, i_lt0, i_0le, i_0lt, i_le0, i_in1, i_cl, nI_add, pk_mul, pk_sub, i_div, i_rem, i_sh1, i_bit, i_or, i_and, i_andn, nt_le, nf_le, nt_lt, nf_lt, nt_eq, nf_eq, not_true_eq_false, and_self, and_false, false_and, eq_self, Bool.toNat_true, Bool.toNat_false, i_bool, i_bool1, Bool.false_eq_true, Bool.true_eq_false, reduceCtorEq, i_neg1, i_neg2, i_neg3, i_neg4, i_neg5, i_neg6, i_neg7, i_neg8, i_neg9, i_nega, i_negb, i_negc, i_max2, i_min2, wi_nil]
          repeat (
            first
            | refine s_X8_lots_0 ?_
            | refine s_X8_lots_23 ?_
            | refine s_X8_lots_25 ?_
            | refine s_X8_lots_38 ?_
            | refine s_X8_lots_46 ?_
            | refine s_X8_lots_52 ?_
            | refine s_X8_lots_107 ?_
            | refine s_X8_lots_124 ?_
            | refine s_X8_lots_127 ?_
            | refine s_X8_lots_134 ?_
            | refine s_X8_lots_143 ?_
            simp (disch := omega) only [B_X8_lots_0, wi_iload_n, wi_iconst, wi_icmp_lt, wi_bipush, wi_icmp_gt, wi_ldc_w, B_X8_lots_23, wi_ireturn, B_X8_lots_25, wi_aload_n, wi_getfield, fldv_7_3, fds_7_3, cnt_7, fldv_6_7, fds_6_7, cnt_6, wi_if_gt, B_X8_lots_38, fldv_7_6, fds_7_6, wi_invokevirtual, cnt_0, B_X8_lots_46, wi_if_ne, B_X8_lots_52, wi_i2l, wi_lstore_n, wi_istore, B_X8_lots_61, wi_iload, wi_icmp_ge, wi_lload_n, wi_ldc2_w, wi_lmul, wi_lrem, wi_ldiv, wi_l2i, B_X8_lots_107, wi_ishl, wi_ixor, wi_iand, wi_invokestatic, B_X8_lots_124, B_X8_lots_127, B_X8_lots_134, wi_iadd, wi_iinc, wi_goto, B_X8_lots_143, no0, no1, nz1, nz2, nz3, nz4, nz5, nz7, nz8, Classical.not_not, bz0, bz1, wi_nil, ld_0, ld_s, isIv_I, isLv_L, isRv_R, true_and, and_true, lset_0, lset_1, lset_s, avw_I, avw_L, avw_R, clr_cons, clr_nil, kst_0, kst_1, kstL_0, kstL_1, addk_I, pA_0, pA_s, pD_0, pD_s, wid_nil, wid_cons, rcv_c, putv_I, putv_L, List.length_cons, List.length_nil, List.set_cons_zero, List.set_cons_succ, not_false_eq_true, Nat.reduceMod, Nat.reduceDiv, Nat.reduceEqDiff, Nat.reduceLT, Nat.reduceLeDiff, Nat.reduceAdd, Nat.reduceSub, reduceIte, Nat.lt_irrefl, Nat.zero_ne_one, Nat.one_ne_zero, Nat.zero_add, List.nil_append, List.cons_append, Option.toList_some, Option.toList_none, forall_const, false_implies, true_implies, false_or, or_false, true_or, or_true, i_le, i_lt, i_eq, i_eq0, i_lt0, i_0le, i_0lt, i_le0, i_in1, i_cl, nI_add, pk_mul, pk_sub, i_div, i_rem, i_sh1, i_bit, i_or, i_and, i_andn, nt_le, nf_le, nt_lt, nf_lt, nt_eq, nf_eq, not_true_eq_false, and_self, and_false, false_and, eq_self, Bool.toNat_true, Bool.toNat_false, i_bool, i_bool1, Bool.false_eq_true, Bool.true_eq_false, reduceCtorEq, i_neg1, i_neg2, i_neg3, i_neg4, i_neg5, i_neg6, i_neg7, i_neg8, i_neg9, i_nega, i_negb, i_negc, i_max2, i_min2])
          refine px ?_
          refine x_entry (ls2 := [aR 8 0, aI (nI n), aI (nI v), aU, aU, aU, aU, aU, aU, aU]) (Nat.le_of_ble_eq_true rfl) pl_9 rfl (Nat.le_of_ble_eq_true rfl) ?_
          try simp (disch := omega) only [no0, no1, nz1, nz2, nz3, nz4, nz5, nz7, nz8, Classical.not_not, bz0, bz1, wi_nil, ld_0, ld_s, isIv_I, isLv_L, isRv_R, true_and, and_true, lset_0, lset_1, lset_s, avw_I, avw_L, avw_R, clr_cons, clr_nil, kst_0, kst_1, kstL_0, kstL_1, addk_I, pA_0, pA_s, pD_0, pD_s, wid_nil, wid_cons, rcv_c, putv_I, putv_L, List.length_cons, List.length_nil, List.set_cons_zero, List.set_cons_succ, not_false_eq_true, Nat.reduceMod, Nat.reduceDiv, Nat.reduceEqDiff, Nat.reduceLT, Nat.reduceLeDiff, Nat.reduceAdd, Nat.reduceSub, reduceIte, Nat.lt_irrefl, Nat.zero_ne_one, Nat.one_ne_zero, Nat.zero_add, List.nil_append, List.cons_append, Option.toList_some, Option.toList_none, forall_const, false_implies, true_implies, false_or, or_false, true_or, or_true, i_le, i_lt, i_eq, i_eq0, i_lt0, i_0le, i_0lt, i_le0, i_in1, i_cl, nI_add, pk_mul, pk_sub, i_div, i_rem, i_sh1, i_bit, i_or, i_and, i_andn, nt_le, nf_le, nt_lt, nf_lt, nt_eq, nf_eq, not_true_eq_false, and_self, and_false, false_and, eq_self, Bool.toNat_true, Bool.toNat_false, i_bool, i_bool1, Bool.false_eq_true, Bool.true_eq_false, reduceCtorEq, i_neg1, i_neg2, i_neg3, i_neg4, i_neg5, i_neg6, i_neg7, i_neg8, i_neg9, i_nega, i_negb, i_negc, i_max2, i_min2, wi_nil]
          repeat (
            first
            | refine s_X9_lots_0 ?_
            | refine s_X9_lots_8 ?_
            | refine s_X9_lots_19 ?_
            | refine s_X9_lots_26 ?_
            | refine s_X9_lots_27 ?_
            | refine s_X9_lots_30 ?_
            | refine s_X9_lots_37 ?_
            | refine s_X9_lots_51 ?_
            | refine s_X9_lots_109 ?_
            | refine s_X9_lots_122 ?_
            | refine s_X9_lots_133 ?_
            | refine s_X9_lots_140 ?_
            | refine s_X9_lots_149 ?_
            simp (disch := omega) only [B_X9_lots_0, wi_aload_n, wi_iload_n, wi_iconst, wi_bipush, wi_invokestatic, B_X9_lots_8, wi_if_eq, wi_ldc_w, B_X9_lots_19, wi_goto, B_X9_lots_26, B_X9_lots_27, wi_invokevirtual, cnt_8, B_X9_lots_30, wi_istore_n, wi_if_ge, wi_ireturn, B_X9_lots_37, wi_getfield, fldv_8_22, fds_8_22, wi_iadd, wi_icmp_le, B_X9_lots_51, wi_i2l, wi_lstore, wi_istore, B_X9_lots_61, wi_iload, wi_icmp_ge, wi_ldc2_w, wi_lload, wi_lmul, wi_lrem, wi_ldiv, fldv_8_10, fds_8_10, wi_l2i, fldv_8_20, fds_8_20, B_X9_lots_109, wi_ishl, wi_ixor, wi_iand, B_X9_lots_122, B_X9_lots_133, B_X9_lots_140, wi_iinc, B_X9_lots_149, no0, no1, nz1, nz2, nz3, nz4, nz5, nz7, nz8, Classical.not_not, bz0, bz1, wi_nil, ld_0, ld_s, isIv_I, isLv_L, isRv_R, true_and, and_true, lset_0, lset_1, lset_s, avw_I, avw_L, avw_R, clr_cons, clr_nil, kst_0, kst_1, kstL_0, kstL_1, addk_I, pA_0, pA_s, pD_0, pD_s, wid_nil, wid_cons, rcv_c, putv_I, putv_L, List.length_cons, List.length_nil, List.set_cons_zero, List.set_cons_succ, not_false_eq_true, Nat.reduceMod, Nat.reduceDiv, Nat.reduceEqDiff, Nat.reduceLT, Nat.reduceLeDiff, Nat.reduceAdd, Nat.reduceSub, reduceIte, Nat.lt_irrefl, Nat.zero_ne_one, Nat.one_ne_zero, Nat.zero_add, List.nil_append, List.cons_append, Option.toList_some, Option.toList_none, forall_const, false_implies, true_implies, false_or, or_false, true_or, or_true, i_le, i_lt, i_eq, i_eq0, i_lt0, i_0le, i_0lt, i_le0, i_in1, i_cl, nI_add, pk_mul, pk_sub, i_div, i_rem, i_sh1, i_bit, i_or, i_and, i_andn, nt_le, nf_le, nt_lt, nf_lt, nt_eq, nf_eq, not_true_eq_false, and_self, and_false, false_and, eq_self, Bool.toNat_true, Bool.toNat_false, i_bool, i_bool1, Bool.false_eq_true, Bool.true_eq_false, reduceCtorEq, i_neg1, i_neg2, i_neg3, i_neg4, i_neg5, i_neg6, i_neg7, i_neg8, i_neg9, i_nega, i_negb, i_negc, i_max2, i_min2])
          refine c_in mb1 ?_
          try simp (disch := omega) only [no0, no1, nz1, nz2, nz3, nz4, nz5, nz7, nz8, Classical.not_not, bz0, bz1, wi_nil, ld_0, ld_s, isIv_I, isLv_L, isRv_R, true_and, and_true, lset_0, lset_1, lset_s, avw_I, avw_L, avw_R, clr_cons, clr_nil, kst_0, kst_1, kstL_0, kstL_1, addk_I, pA_0, pA_s, pD_0, pD_s, wid_nil, wid_cons, rcv_c, putv_I, putv_L, List.length_cons, List.length_nil, List.set_cons_zero, List.set_cons_succ, not_false_eq_true, Nat.reduceMod, Nat.reduceDiv, Nat.reduceEqDiff, Nat.reduceLT, Nat.reduceLeDiff, Nat.reduceAdd, Nat.reduceSub, reduceIte, Nat.lt_irrefl, Nat.zero_ne_one, Nat.one_ne_zero, Nat.zero_add, List.nil_append, List.cons_append, Option.toList_some, Option.toList_none, forall_const, false_implies, true_implies, false_or, or_false, true_or, or_true, i_le, i_lt, i_eq, i_eq0, i_lt0, i_0le, i_0lt, i_le0, i_in1, i_cl, nI_add, pk_mul, pk_sub, i_div, i_rem, i_sh1, i_bit, i_or, i_and, i_andn, nt_le, nf_le, nt_lt, nf_lt, nt_eq, nf_eq, not_true_eq_false, and_self, and_false, false_and, eq_self, Bool.toNat_true, Bool.toNat_false, i_bool, i_bool1, Bool.false_eq_true, Bool.true_eq_false, reduceCtorEq, i_neg1, i_neg2, i_neg3, i_neg4, i_neg5, i_neg6, i_neg7, i_neg8, i_neg9, i_nega, i_negb, i_negc, i_max2, i_min2, wi_nil]
          repeat (
            first
            | refine s_X9_lots_0 ?_
            | refine s_X9_lots_8 ?_
            | refine s_X9_lots_19 ?_
            | refine s_X9_lots_26 ?_
            | refine s_X9_lots_27 ?_
            | refine s_X9_lots_30 ?_
            | refine s_X9_lots_37 ?_
            | refine s_X9_lots_51 ?_
            | refine s_X9_lots_109 ?_
            | refine s_X9_lots_122 ?_
            | refine s_X9_lots_133 ?_
            | refine s_X9_lots_140 ?_
            | refine s_X9_lots_149 ?_
            simp (disch := omega) only [B_X9_lots_0, wi_aload_n, wi_iload_n, wi_iconst, wi_bipush, wi_invokestatic, B_X9_lots_8, wi_if_eq, wi_ldc_w, B_X9_lots_19, wi_goto, B_X9_lots_26, B_X9_lots_27, wi_invokevirtual, cnt_8, B_X9_lots_30, wi_istore_n, wi_if_ge, wi_ireturn, B_X9_lots_37, wi_getfield, fldv_8_22, fds_8_22, wi_iadd, wi_icmp_le, B_X9_lots_51, wi_i2l, wi_lstore, wi_istore, B_X9_lots_61, wi_iload, wi_icmp_ge, wi_ldc2_w, wi_lload, wi_lmul, wi_lrem, wi_ldiv, fldv_8_10, fds_8_10, wi_l2i, fldv_8_20, fds_8_20, B_X9_lots_109, wi_ishl, wi_ixor, wi_iand, B_X9_lots_122, B_X9_lots_133, B_X9_lots_140, wi_iinc, B_X9_lots_149, no0, no1, nz1, nz2, nz3, nz4, nz5, nz7, nz8, Classical.not_not, bz0, bz1, wi_nil, ld_0, ld_s, isIv_I, isLv_L, isRv_R, true_and, and_true, lset_0, lset_1, lset_s, avw_I, avw_L, avw_R, clr_cons, clr_nil, kst_0, kst_1, kstL_0, kstL_1, addk_I, pA_0, pA_s, pD_0, pD_s, wid_nil, wid_cons, rcv_c, putv_I, putv_L, List.length_cons, List.length_nil, List.set_cons_zero, List.set_cons_succ, not_false_eq_true, Nat.reduceMod, Nat.reduceDiv, Nat.reduceEqDiff, Nat.reduceLT, Nat.reduceLeDiff, Nat.reduceAdd, Nat.reduceSub, reduceIte, Nat.lt_irrefl, Nat.zero_ne_one, Nat.one_ne_zero, Nat.zero_add, List.nil_append, List.cons_append, Option.toList_some, Option.toList_none, forall_const, false_implies, true_implies, false_or, or_false, true_or, or_true, i_le, i_lt, i_eq, i_eq0, i_lt0, i_0le, i_0lt, i_le0, i_in1, i_cl, nI_add, pk_mul, pk_sub, i_div, i_rem, i_sh1, i_bit, i_or, i_and, i_andn, nt_le, nf_le, nt_lt, nf_lt, nt_eq, nf_eq, not_true_eq_false, and_self, and_false, false_and, eq_self, Bool.toNat_true, Bool.toNat_false, i_bool, i_bool1, Bool.false_eq_true, Bool.true_eq_false, reduceCtorEq, i_neg1, i_neg2, i_neg3, i_neg4, i_neg5, i_neg6, i_neg7, i_neg8, i_neg9, i_nega, i_negb, i_negc, i_max2, i_min2])
          refine c_in mb2 ?_
          try simp (disch := omega) only [no0, no1, nz1, nz2, nz3, nz4, nz5, nz7, nz8, Classical.not_not, bz0, bz1, wi_nil, ld_0, ld_s, isIv_I, isLv_L, isRv_R, true_and, and_true, lset_0, lset_1, lset_s, avw_I, avw_L, avw_R, clr_cons, clr_nil, kst_0, kst_1, kstL_0, kstL_1, addk_I, pA_0, pA_s, pD_0, pD_s, wid_nil, wid_cons, rcv_c, putv_I, putv_L, List.length_cons, List.length_nil, List.set_cons_zero, List.set_cons_succ, not_false_eq_true, Nat.reduceMod, Nat.reduceDiv, Nat.reduceEqDiff, Nat.reduceLT, Nat.reduceLeDiff, Nat.reduceAdd, Nat.reduceSub, reduceIte, Nat.lt_irrefl, Nat.zero_ne_one, Nat.one_ne_zero, Nat.zero_add, List.nil_append, List.cons_append, Option.toList_some, Option.toList_none, forall_const, false_implies, true_implies, false_or, or_false, true_or, or_true, i_le, i_lt, i_eq, i_eq0, i_lt0, i_0le, i_0lt, i_le0, i_in1, i_cl, nI_add, pk_mul, pk_sub, i_div, i_rem, i_sh1, i_bit, i_or, i_and, i_andn, nt_le, nf_le, nt_lt, nf_lt, nt_eq, nf_eq, not_true_eq_false, and_self, and_false, false_and, eq_self, Bool.toNat_true, Bool.toNat_false, i_bool, i_bool1, Bool.false_eq_true, Bool.true_eq_false, reduceCtorEq, i_neg1, i_neg2, i_neg3, i_neg4, i_neg5, i_neg6, i_neg7, i_neg8, i_neg9, i_nega, i_negb, i_negc, i_max2, i_min2, wi_nil]
          repeat (
            first
            | refine s_X9_lots_0 ?_
            | refine s_X9_lots_8 ?_
            | refine s_X9_lots_19 ?_
            | refine s_X9_lots_26 ?_
            | refine s_X9_lots_27 ?_
            | refine s_X9_lots_30 ?_
            | refine s_X9_lots_37 ?_
            | refine s_X9_lots_51 ?_
            | refine s_X9_lots_109 ?_
            | refine s_X9_lots_122 ?_
            | refine s_X9_lots_133 ?_
            | refine s_X9_lots_140 ?_
            | refine s_X9_lots_149 ?_
            simp (disch := omega) only [B_X9_lots_0, wi_aload_n, wi_iload_n, wi_iconst, wi_bipush, wi_invokestatic, B_X9_lots_8, wi_if_eq, wi_ldc_w, B_X9_lots_19, wi_goto, B_X9_lots_26, B_X9_lots_27, wi_invokevirtual, cnt_8, B_X9_lots_30, wi_istore_n, wi_if_ge, wi_ireturn, B_X9_lots_37, wi_getfield, fldv_8_22, fds_8_22, wi_iadd, wi_icmp_le, B_X9_lots_51, wi_i2l, wi_lstore, wi_istore, B_X9_lots_61, wi_iload, wi_icmp_ge, wi_ldc2_w, wi_lload, wi_lmul, wi_lrem, wi_ldiv, fldv_8_10, fds_8_10, wi_l2i, fldv_8_20, fds_8_20, B_X9_lots_109, wi_ishl, wi_ixor, wi_iand, B_X9_lots_122, B_X9_lots_133, B_X9_lots_140, wi_iinc, B_X9_lots_149, no0, no1, nz1, nz2, nz3, nz4, nz5, nz7, nz8, Classical.not_not, bz0, bz1, wi_nil, ld_0, ld_s, isIv_I, isLv_L, isRv_R, true_and, and_true, lset_0, lset_1, lset_s, avw_I, avw_L, avw_R, clr_cons, clr_nil, kst_0, kst_1, kstL_0, kstL_1, addk_I, pA_0, pA_s, pD_0, pD_s, wid_nil, wid_cons, rcv_c, putv_I, putv_L, List.length_cons, List.length_nil, List.set_cons_zero, List.set_cons_succ, not_false_eq_true, Nat.reduceMod, Nat.reduceDiv, Nat.reduceEqDiff, Nat.reduceLT, Nat.reduceLeDiff, Nat.reduceAdd, Nat.reduceSub, reduceIte, Nat.lt_irrefl, Nat.zero_ne_one, Nat.one_ne_zero, Nat.zero_add, List.nil_append, List.cons_append, Option.toList_some, Option.toList_none, forall_const, false_implies, true_implies, false_or, or_false, true_or, or_true, i_le, i_lt, i_eq, i_eq0, i_lt0, i_0le, i_0lt, i_le0, i_in1, i_cl, nI_add, pk_mul, pk_sub, i_div, i_rem, i_sh1, i_bit, i_or, i_and, i_andn, nt_le, nf_le, nt_lt, nf_lt, nt_eq, nf_eq, not_true_eq_false, and_self, and_false, false_and, eq_self, Bool.toNat_true, Bool.toNat_false, i_bool, i_bool1, Bool.false_eq_true, Bool.true_eq_false, reduceCtorEq, i_neg1, i_neg2, i_neg3, i_neg4, i_neg5, i_neg6, i_neg7, i_neg8, i_neg9, i_nega, i_negb, i_negc, i_max2, i_min2])
          refine c_needK hm hn5 e0 ?_
          try simp (disch := omega) only [no0, no1, nz1, nz2, nz3, nz4, nz5, nz7, nz8, Classical.not_not, bz0, bz1, wi_nil, ld_0, ld_s, isIv_I, isLv_L, isRv_R, true_and, and_true, lset_0, lset_1, lset_s, avw_I, avw_L, avw_R, clr_cons, clr_nil, kst_0, kst_1, kstL_0, kstL_1, addk_I, pA_0, pA_s, pD_0, pD_s, wid_nil, wid_cons, rcv_c, putv_I, putv_L, List.length_cons, List.length_nil, List.set_cons_zero, List.set_cons_succ, not_false_eq_true, Nat.reduceMod, Nat.reduceDiv, Nat.reduceEqDiff, Nat.reduceLT, Nat.reduceLeDiff, Nat.reduceAdd, Nat.reduceSub, reduceIte, Nat.lt_irrefl, Nat.zero_ne_one, Nat.one_ne_zero, Nat.zero_add, List.nil_append, List.cons_append, Option.toList_some, Option.toList_none, forall_const, false_implies, true_implies, false_or, or_false, true_or, or_true, i_le, i_lt, i_eq, i_eq0, i_lt0, i_0le, i_0lt, i_le0, i_in1, i_cl, nI_add, pk_mul, pk_sub, i_div, i_rem, i_sh1, i_bit, i_or, i_and, i_andn, nt_le, nf_le, nt_lt, nf_lt, nt_eq, nf_eq, not_true_eq_false, and_self, and_false, false_and, eq_self, Bool.toNat_true, Bool.toNat_false, i_bool, i_bool1, Bool.false_eq_true, Bool.true_eq_false, reduceCtorEq, i_neg1, i_neg2, i_neg3, i_neg4, i_neg5, i_neg6, i_neg7, i_neg8, i_neg9, i_nega, i_negb, i_negc, i_max2, i_min2, hlg.1, wi_nil]
          repeat (
            first
            | refine s_X9_lots_0 ?_
            | refine s_X9_lots_8 ?_
            | refine s_X9_lots_19 ?_
            | refine s_X9_lots_26 ?_
            | refine s_X9_lots_27 ?_
            | refine s_X9_lots_30 ?_
            | refine s_X9_lots_37 ?_
            | refine s_X9_lots_51 ?_
            | refine s_X9_lots_109 ?_
            | refine s_X9_lots_122 ?_
            | refine s_X9_lots_133 ?_
            | refine s_X9_lots_140 ?_
            | refine s_X9_lots_149 ?_
            simp (disch := omega) only [B_X9_lots_0, wi_aload_n, wi_iload_n, wi_iconst, wi_bipush, wi_invokestatic, B_X9_lots_8, wi_if_eq, wi_ldc_w, B_X9_lots_19, wi_goto, B_X9_lots_26, B_X9_lots_27, wi_invokevirtual, cnt_8, B_X9_lots_30, wi_istore_n, wi_if_ge, wi_ireturn, B_X9_lots_37, wi_getfield, fldv_8_22, fds_8_22, wi_iadd, wi_icmp_le, B_X9_lots_51, wi_i2l, wi_lstore, wi_istore, B_X9_lots_61, wi_iload, wi_icmp_ge, wi_ldc2_w, wi_lload, wi_lmul, wi_lrem, wi_ldiv, fldv_8_10, fds_8_10, wi_l2i, fldv_8_20, fds_8_20, B_X9_lots_109, wi_ishl, wi_ixor, wi_iand, B_X9_lots_122, B_X9_lots_133, B_X9_lots_140, wi_iinc, B_X9_lots_149, no0, no1, nz1, nz2, nz3, nz4, nz5, nz7, nz8, Classical.not_not, bz0, bz1, wi_nil, ld_0, ld_s, isIv_I, isLv_L, isRv_R, true_and, and_true, lset_0, lset_1, lset_s, avw_I, avw_L, avw_R, clr_cons, clr_nil, kst_0, kst_1, kstL_0, kstL_1, addk_I, pA_0, pA_s, pD_0, pD_s, wid_nil, wid_cons, rcv_c, putv_I, putv_L, List.length_cons, List.length_nil, List.set_cons_zero, List.set_cons_succ, not_false_eq_true, Nat.reduceMod, Nat.reduceDiv, Nat.reduceEqDiff, Nat.reduceLT, Nat.reduceLeDiff, Nat.reduceAdd, Nat.reduceSub, reduceIte, Nat.lt_irrefl, Nat.zero_ne_one, Nat.one_ne_zero, Nat.zero_add, List.nil_append, List.cons_append, Option.toList_some, Option.toList_none, forall_const, false_implies, true_implies, false_or, or_false, true_or, or_true, i_le, i_lt, i_eq, i_eq0, i_lt0, i_0le, i_0lt, i_le0, i_in1, i_cl, nI_add, pk_mul, pk_sub, i_div, i_rem, i_sh1, i_bit, i_or, i_and, i_andn, nt_le, nf_le, nt_lt, nf_lt, nt_eq, nf_eq, not_true_eq_false, and_self, and_false, false_and, eq_self, Bool.toNat_true, Bool.toNat_false, i_bool, i_bool1, Bool.false_eq_true, Bool.true_eq_false, reduceCtorEq, i_neg1, i_neg2, i_neg3, i_neg4, i_neg5, i_neg6, i_neg7, i_neg8, i_neg9, i_nega, i_negb, i_negc, i_max2, i_min2, hlg.1])
          exact pm h
        · refine x_entry (ls2 := [aR 7 0, aI (nI n), aI (nI v), aU, aU, aU, aU, aU, aU]) (Nat.le_of_ble_eq_true rfl) pl_8 rfl (Nat.le_of_ble_eq_true rfl) ?_
          try simp (disch := omega) only [no0, no1, nz1, nz2, nz3, nz4, nz5, nz7, nz8, Classical.not_not, bz0, bz1, wi_nil, ld_0, ld_s, isIv_I, isLv_L, isRv_R, true_and, and_true, lset_0, lset_1, lset_s, avw_I, avw_L, avw_R, clr_cons, clr_nil, kst_0, kst_1, kstL_0, kstL_1, addk_I, pA_0, pA_s, pD_0, pD_s, wid_nil, wid_cons, rcv_c, putv_I, putv_L, List.length_cons, List.length_nil, List.set_cons_zero, List.set_cons_succ, not_false_eq_true, Nat.reduceMod, Nat.reduceDiv, Nat.reduceEqDiff, Nat.reduceLT, Nat.reduceLeDiff, Nat.reduceAdd, Nat.reduceSub, reduceIte, Nat.lt_irrefl, Nat.zero_ne_one, Nat.one_ne_zero, Nat.zero_add, List.nil_append, List.cons_append, Option.toList_some, Option.toList_none, forall_const, false_implies, true_implies, false_or, or_false, true_or, or_true, i_le, i_lt, i_eq, i_eq0, i_lt0, i_0le, i_0lt, i_le0, i_in1, i_cl, nI_add, pk_mul, pk_sub, i_div, i_rem, i_sh1, i_bit, i_or, i_and, i_andn, nt_le, nf_le, nt_lt, nf_lt, nt_eq, nf_eq, not_true_eq_false, and_self, and_false, false_and, eq_self, Bool.toNat_true, Bool.toNat_false, i_bool, i_bool1, Bool.false_eq_true, Bool.true_eq_false, reduceCtorEq, i_neg1, i_neg2, i_neg3, i_neg4, i_neg5, i_neg6, i_neg7, i_neg8, i_neg9, i_nega, i_negb, i_negc, i_max2, i_min2, c1, c2, (y_n hy), wi_nil]
          repeat (
            first
            | refine s_X8_lots_0 ?_
            | refine s_X8_lots_23 ?_
            | refine s_X8_lots_25 ?_
            | refine s_X8_lots_38 ?_
            | refine s_X8_lots_46 ?_
            | refine s_X8_lots_52 ?_
            | refine s_X8_lots_107 ?_
            | refine s_X8_lots_124 ?_
            | refine s_X8_lots_127 ?_
            | refine s_X8_lots_134 ?_
            | refine s_X8_lots_143 ?_
            simp (disch := omega) only [B_X8_lots_0, wi_iload_n, wi_iconst, wi_icmp_lt, wi_bipush, wi_icmp_gt, wi_ldc_w, B_X8_lots_23, wi_ireturn, B_X8_lots_25, wi_aload_n, wi_getfield, fldv_7_3, fds_7_3, cnt_7, fldv_6_7, fds_6_7, cnt_6, wi_if_gt, B_X8_lots_38, fldv_7_6, fds_7_6, wi_invokevirtual, cnt_0, B_X8_lots_46, wi_if_ne, B_X8_lots_52, wi_i2l, wi_lstore_n, wi_istore, B_X8_lots_61, wi_iload, wi_icmp_ge, wi_lload_n, wi_ldc2_w, wi_lmul, wi_lrem, wi_ldiv, wi_l2i, B_X8_lots_107, wi_ishl, wi_ixor, wi_iand, wi_invokestatic, B_X8_lots_124, B_X8_lots_127, B_X8_lots_134, wi_iadd, wi_iinc, wi_goto, B_X8_lots_143, no0, no1, nz1, nz2, nz3, nz4, nz5, nz7, nz8, Classical.not_not, bz0, bz1, wi_nil, ld_0, ld_s, isIv_I, isLv_L, isRv_R, true_and, and_true, lset_0, lset_1, lset_s, avw_I, avw_L, avw_R, clr_cons, clr_nil, kst_0, kst_1, kstL_0, kstL_1, addk_I, pA_0, pA_s, pD_0, pD_s, wid_nil, wid_cons, rcv_c, putv_I, putv_L, List.length_cons, List.length_nil, List.set_cons_zero, List.set_cons_succ, not_false_eq_true, Nat.reduceMod, Nat.reduceDiv, Nat.reduceEqDiff, Nat.reduceLT, Nat.reduceLeDiff, Nat.reduceAdd, Nat.reduceSub, reduceIte, Nat.lt_irrefl, Nat.zero_ne_one, Nat.one_ne_zero, Nat.zero_add, List.nil_append, List.cons_append, Option.toList_some, Option.toList_none, forall_const, false_implies, true_implies, false_or, or_false, true_or, or_true, i_le, i_lt, i_eq, i_eq0, i_lt0, i_0le, i_0lt, i_le0, i_in1, i_cl, nI_add, pk_mul, pk_sub, i_div, i_rem, i_sh1, i_bit, i_or, i_and, i_andn, nt_le, nf_le, nt_lt, nf_lt, nt_eq, nf_eq, not_true_eq_false, and_self, and_false, false_and, eq_self, Bool.toNat_true, Bool.toNat_false, i_bool, i_bool1, Bool.false_eq_true, Bool.true_eq_false, reduceCtorEq, i_neg1, i_neg2, i_neg3, i_neg4, i_neg5, i_neg6, i_neg7, i_neg8, i_neg9, i_nega, i_negb, i_negc, i_max2, i_min2, c1, c2, (y_n hy)])
          refine c_haveRoom hx.1 hl (by omega) ?_
          rw [if_pos (by omega)]
          try simp (disch := omega) only [no0, no1, nz1, nz2, nz3, nz4, nz5, nz7, nz8, Classical.not_not, bz0, bz1, wi_nil, ld_0, ld_s, isIv_I, isLv_L, isRv_R, true_and, and_true, lset_0, lset_1, lset_s, avw_I, avw_L, avw_R, clr_cons, clr_nil, kst_0, kst_1, kstL_0, kstL_1, addk_I, pA_0, pA_s, pD_0, pD_s, wid_nil, wid_cons, rcv_c, putv_I, putv_L, List.length_cons, List.length_nil, List.set_cons_zero, List.set_cons_succ, not_false_eq_true, Nat.reduceMod, Nat.reduceDiv, Nat.reduceEqDiff, Nat.reduceLT, Nat.reduceLeDiff, Nat.reduceAdd, Nat.reduceSub, reduceIte, Nat.lt_irrefl, Nat.zero_ne_one, Nat.one_ne_zero, Nat.zero_add, List.nil_append, List.cons_append, Option.toList_some, Option.toList_none, forall_const, false_implies, true_implies, false_or, or_false, true_or, or_true, i_le, i_lt, i_eq, i_eq0, i_lt0, i_0le, i_0lt, i_le0, i_in1, i_cl, nI_add, pk_mul, pk_sub, i_div, i_rem, i_sh1, i_bit, i_or, i_and, i_andn, nt_le, nf_le, nt_lt, nf_lt, nt_eq, nf_eq, not_true_eq_false, and_self, and_false, false_and, eq_self, Bool.toNat_true, Bool.toNat_false, i_bool, i_bool1, Bool.false_eq_true, Bool.true_eq_false, reduceCtorEq, i_neg1, i_neg2, i_neg3, i_neg4, i_neg5, i_neg6, i_neg7, i_neg8, i_neg9, i_nega, i_negb, i_negc, i_max2, i_min2, nI_l, wi_nil]
          repeat (
            first
            | refine s_X8_lots_0 ?_
            | refine s_X8_lots_23 ?_
            | refine s_X8_lots_25 ?_
            | refine s_X8_lots_38 ?_
            | refine s_X8_lots_46 ?_
            | refine s_X8_lots_52 ?_
            | refine s_X8_lots_107 ?_
            | refine s_X8_lots_124 ?_
            | refine s_X8_lots_127 ?_
            | refine s_X8_lots_134 ?_
            | refine s_X8_lots_143 ?_
            simp (disch := omega) only [B_X8_lots_0, wi_iload_n, wi_iconst, wi_icmp_lt, wi_bipush, wi_icmp_gt, wi_ldc_w, B_X8_lots_23, wi_ireturn, B_X8_lots_25, wi_aload_n, wi_getfield, fldv_7_3, fds_7_3, cnt_7, fldv_6_7, fds_6_7, cnt_6, wi_if_gt, B_X8_lots_38, fldv_7_6, fds_7_6, wi_invokevirtual, cnt_0, B_X8_lots_46, wi_if_ne, B_X8_lots_52, wi_i2l, wi_lstore_n, wi_istore, B_X8_lots_61, wi_iload, wi_icmp_ge, wi_lload_n, wi_ldc2_w, wi_lmul, wi_lrem, wi_ldiv, wi_l2i, B_X8_lots_107, wi_ishl, wi_ixor, wi_iand, wi_invokestatic, B_X8_lots_124, B_X8_lots_127, B_X8_lots_134, wi_iadd, wi_iinc, wi_goto, B_X8_lots_143, no0, no1, nz1, nz2, nz3, nz4, nz5, nz7, nz8, Classical.not_not, bz0, bz1, wi_nil, ld_0, ld_s, isIv_I, isLv_L, isRv_R, true_and, and_true, lset_0, lset_1, lset_s, avw_I, avw_L, avw_R, clr_cons, clr_nil, kst_0, kst_1, kstL_0, kstL_1, addk_I, pA_0, pA_s, pD_0, pD_s, wid_nil, wid_cons, rcv_c, putv_I, putv_L, List.length_cons, List.length_nil, List.set_cons_zero, List.set_cons_succ, not_false_eq_true, Nat.reduceMod, Nat.reduceDiv, Nat.reduceEqDiff, Nat.reduceLT, Nat.reduceLeDiff, Nat.reduceAdd, Nat.reduceSub, reduceIte, Nat.lt_irrefl, Nat.zero_ne_one, Nat.one_ne_zero, Nat.zero_add, List.nil_append, List.cons_append, Option.toList_some, Option.toList_none, forall_const, false_implies, true_implies, false_or, or_false, true_or, or_true, i_le, i_lt, i_eq, i_eq0, i_lt0, i_0le, i_0lt, i_le0, i_in1, i_cl, nI_add, pk_mul, pk_sub, i_div, i_rem, i_sh1, i_bit, i_or, i_and, i_andn, nt_le, nf_le, nt_lt, nf_lt, nt_eq, nf_eq, not_true_eq_false, and_self, and_false, false_and, eq_self, Bool.toNat_true, Bool.toNat_false, i_bool, i_bool1, Bool.false_eq_true, Bool.true_eq_false, reduceCtorEq, i_neg1, i_neg2, i_neg3, i_neg4, i_neg5, i_neg6, i_neg7, i_neg8, i_neg9, i_nega, i_negb, i_negc, i_max2, i_min2, nI_l])
          refine l_xlots (S0 := S) (R := lotR Y0 n as v 0) h0 (by omega) n20 (fun T x1 x2 fx ha2 => ?_) n 0 as v 0 S (by omega) (by omega) (by omega) (by omega) rfl hx hy hac Fr.refl
          refine px ?_
          have hmT : YrM T 40 (nwY Y0 as) := yrm_fr hm fx rfl rfl
          have hlT : MLg T Y0 as := mlg_fr hlg fx rfl
          refine x_entry (ls2 := [aR 8 0, aI (nI n), aI (nI v), aU, aU, aU, aU, aU, aU, aU]) (Nat.le_of_ble_eq_true rfl) pl_9 rfl (Nat.le_of_ble_eq_true rfl) ?_
          try simp (disch := omega) only [no0, no1, nz1, nz2, nz3, nz4, nz5, nz7, nz8, Classical.not_not, bz0, bz1, wi_nil, ld_0, ld_s, isIv_I, isLv_L, isRv_R, true_and, and_true, lset_0, lset_1, lset_s, avw_I, avw_L, avw_R, clr_cons, clr_nil, kst_0, kst_1, kstL_0, kstL_1, addk_I, pA_0, pA_s, pD_0, pD_s, wid_nil, wid_cons, rcv_c, putv_I, putv_L, List.length_cons, List.length_nil, List.set_cons_zero, List.set_cons_succ, not_false_eq_true, Nat.reduceMod, Nat.reduceDiv, Nat.reduceEqDiff, Nat.reduceLT, Nat.reduceLeDiff, Nat.reduceAdd, Nat.reduceSub, reduceIte, Nat.lt_irrefl, Nat.zero_ne_one, Nat.one_ne_zero, Nat.zero_add, List.nil_append, List.cons_append, Option.toList_some, Option.toList_none, forall_const, false_implies, true_implies, false_or, or_false, true_or, or_true, i_le, i_lt, i_eq, i_eq0, i_lt0, i_0le, i_0lt, i_le0, i_in1, i_cl, nI_add, pk_mul, pk_sub, i_div, i_rem, i_sh1, i_bit, i_or, i_and, i_andn, nt_le, nf_le, nt_lt, nf_lt, nt_eq, nf_eq, not_true_eq_false, and_self, and_false, false_and, eq_self, Bool.toNat_true, Bool.toNat_false, i_bool, i_bool1, Bool.false_eq_true, Bool.true_eq_false, reduceCtorEq, i_neg1, i_neg2, i_neg3, i_neg4, i_neg5, i_neg6, i_neg7, i_neg8, i_neg9, i_nega, i_negb, i_negc, i_max2, i_min2, wi_nil]
          repeat (
            first
            | refine s_X9_lots_0 ?_
            | refine s_X9_lots_8 ?_
            | refine s_X9_lots_19 ?_
            | refine s_X9_lots_26 ?_
            | refine s_X9_lots_27 ?_
            | refine s_X9_lots_30 ?_
            | refine s_X9_lots_37 ?_
            | refine s_X9_lots_51 ?_
            | refine s_X9_lots_109 ?_
            | refine s_X9_lots_122 ?_
            | refine s_X9_lots_133 ?_
            | refine s_X9_lots_140 ?_
            | refine s_X9_lots_149 ?_
            simp (disch := omega) only [B_X9_lots_0, wi_aload_n, wi_iload_n, wi_iconst, wi_bipush, wi_invokestatic, B_X9_lots_8, wi_if_eq, wi_ldc_w, B_X9_lots_19, wi_goto, B_X9_lots_26, B_X9_lots_27, wi_invokevirtual, cnt_8, B_X9_lots_30, wi_istore_n, wi_if_ge, wi_ireturn, B_X9_lots_37, wi_getfield, fldv_8_22, fds_8_22, wi_iadd, wi_icmp_le, B_X9_lots_51, wi_i2l, wi_lstore, wi_istore, B_X9_lots_61, wi_iload, wi_icmp_ge, wi_ldc2_w, wi_lload, wi_lmul, wi_lrem, wi_ldiv, fldv_8_10, fds_8_10, wi_l2i, fldv_8_20, fds_8_20, B_X9_lots_109, wi_ishl, wi_ixor, wi_iand, B_X9_lots_122, B_X9_lots_133, B_X9_lots_140, wi_iinc, B_X9_lots_149, no0, no1, nz1, nz2, nz3, nz4, nz5, nz7, nz8, Classical.not_not, bz0, bz1, wi_nil, ld_0, ld_s, isIv_I, isLv_L, isRv_R, true_and, and_true, lset_0, lset_1, lset_s, avw_I, avw_L, avw_R, clr_cons, clr_nil, kst_0, kst_1, kstL_0, kstL_1, addk_I, pA_0, pA_s, pD_0, pD_s, wid_nil, wid_cons, rcv_c, putv_I, putv_L, List.length_cons, List.length_nil, List.set_cons_zero, List.set_cons_succ, not_false_eq_true, Nat.reduceMod, Nat.reduceDiv, Nat.reduceEqDiff, Nat.reduceLT, Nat.reduceLeDiff, Nat.reduceAdd, Nat.reduceSub, reduceIte, Nat.lt_irrefl, Nat.zero_ne_one, Nat.one_ne_zero, Nat.zero_add, List.nil_append, List.cons_append, Option.toList_some, Option.toList_none, forall_const, false_implies, true_implies, false_or, or_false, true_or, or_true, i_le, i_lt, i_eq, i_eq0, i_lt0, i_0le, i_0lt, i_le0, i_in1, i_cl, nI_add, pk_mul, pk_sub, i_div, i_rem, i_sh1, i_bit, i_or, i_and, i_andn, nt_le, nf_le, nt_lt, nf_lt, nt_eq, nf_eq, not_true_eq_false, and_self, and_false, false_and, eq_self, Bool.toNat_true, Bool.toNat_false, i_bool, i_bool1, Bool.false_eq_true, Bool.true_eq_false, reduceCtorEq, i_neg1, i_neg2, i_neg3, i_neg4, i_neg5, i_neg6, i_neg7, i_neg8, i_neg9, i_nega, i_negb, i_negc, i_max2, i_min2])
          refine c_in mb1 ?_
          try simp (disch := omega) only [no0, no1, nz1, nz2, nz3, nz4, nz5, nz7, nz8, Classical.not_not, bz0, bz1, wi_nil, ld_0, ld_s, isIv_I, isLv_L, isRv_R, true_and, and_true, lset_0, lset_1, lset_s, avw_I, avw_L, avw_R, clr_cons, clr_nil, kst_0, kst_1, kstL_0, kstL_1, addk_I, pA_0, pA_s, pD_0, pD_s, wid_nil, wid_cons, rcv_c, putv_I, putv_L, List.length_cons, List.length_nil, List.set_cons_zero, List.set_cons_succ, not_false_eq_true, Nat.reduceMod, Nat.reduceDiv, Nat.reduceEqDiff, Nat.reduceLT, Nat.reduceLeDiff, Nat.reduceAdd, Nat.reduceSub, reduceIte, Nat.lt_irrefl, Nat.zero_ne_one, Nat.one_ne_zero, Nat.zero_add, List.nil_append, List.cons_append, Option.toList_some, Option.toList_none, forall_const, false_implies, true_implies, false_or, or_false, true_or, or_true, i_le, i_lt, i_eq, i_eq0, i_lt0, i_0le, i_0lt, i_le0, i_in1, i_cl, nI_add, pk_mul, pk_sub, i_div, i_rem, i_sh1, i_bit, i_or, i_and, i_andn, nt_le, nf_le, nt_lt, nf_lt, nt_eq, nf_eq, not_true_eq_false, and_self, and_false, false_and, eq_self, Bool.toNat_true, Bool.toNat_false, i_bool, i_bool1, Bool.false_eq_true, Bool.true_eq_false, reduceCtorEq, i_neg1, i_neg2, i_neg3, i_neg4, i_neg5, i_neg6, i_neg7, i_neg8, i_neg9, i_nega, i_negb, i_negc, i_max2, i_min2, wi_nil]
          repeat (
            first
            | refine s_X9_lots_0 ?_
            | refine s_X9_lots_8 ?_
            | refine s_X9_lots_19 ?_
            | refine s_X9_lots_26 ?_
            | refine s_X9_lots_27 ?_
            | refine s_X9_lots_30 ?_
            | refine s_X9_lots_37 ?_
            | refine s_X9_lots_51 ?_
            | refine s_X9_lots_109 ?_
            | refine s_X9_lots_122 ?_
            | refine s_X9_lots_133 ?_
            | refine s_X9_lots_140 ?_
            | refine s_X9_lots_149 ?_
            simp (disch := omega) only [B_X9_lots_0, wi_aload_n, wi_iload_n, wi_iconst, wi_bipush, wi_invokestatic, B_X9_lots_8, wi_if_eq, wi_ldc_w, B_X9_lots_19, wi_goto, B_X9_lots_26, B_X9_lots_27, wi_invokevirtual, cnt_8, B_X9_lots_30, wi_istore_n, wi_if_ge, wi_ireturn, B_X9_lots_37, wi_getfield, fldv_8_22, fds_8_22, wi_iadd, wi_icmp_le, B_X9_lots_51, wi_i2l, wi_lstore, wi_istore, B_X9_lots_61, wi_iload, wi_icmp_ge, wi_ldc2_w, wi_lload, wi_lmul, wi_lrem, wi_ldiv, fldv_8_10, fds_8_10, wi_l2i, fldv_8_20, fds_8_20, B_X9_lots_109, wi_ishl, wi_ixor, wi_iand, B_X9_lots_122, B_X9_lots_133, B_X9_lots_140, wi_iinc, B_X9_lots_149, no0, no1, nz1, nz2, nz3, nz4, nz5, nz7, nz8, Classical.not_not, bz0, bz1, wi_nil, ld_0, ld_s, isIv_I, isLv_L, isRv_R, true_and, and_true, lset_0, lset_1, lset_s, avw_I, avw_L, avw_R, clr_cons, clr_nil, kst_0, kst_1, kstL_0, kstL_1, addk_I, pA_0, pA_s, pD_0, pD_s, wid_nil, wid_cons, rcv_c, putv_I, putv_L, List.length_cons, List.length_nil, List.set_cons_zero, List.set_cons_succ, not_false_eq_true, Nat.reduceMod, Nat.reduceDiv, Nat.reduceEqDiff, Nat.reduceLT, Nat.reduceLeDiff, Nat.reduceAdd, Nat.reduceSub, reduceIte, Nat.lt_irrefl, Nat.zero_ne_one, Nat.one_ne_zero, Nat.zero_add, List.nil_append, List.cons_append, Option.toList_some, Option.toList_none, forall_const, false_implies, true_implies, false_or, or_false, true_or, or_true, i_le, i_lt, i_eq, i_eq0, i_lt0, i_0le, i_0lt, i_le0, i_in1, i_cl, nI_add, pk_mul, pk_sub, i_div, i_rem, i_sh1, i_bit, i_or, i_and, i_andn, nt_le, nf_le, nt_lt, nf_lt, nt_eq, nf_eq, not_true_eq_false, and_self, and_false, false_and, eq_self, Bool.toNat_true, Bool.toNat_false, i_bool, i_bool1, Bool.false_eq_true, Bool.true_eq_false, reduceCtorEq, i_neg1, i_neg2, i_neg3, i_neg4, i_neg5, i_neg6, i_neg7, i_neg8, i_neg9, i_nega, i_negb, i_negc, i_max2, i_min2])
          refine c_in mb2 ?_
          try simp (disch := omega) only [no0, no1, nz1, nz2, nz3, nz4, nz5, nz7, nz8, Classical.not_not, bz0, bz1, wi_nil, ld_0, ld_s, isIv_I, isLv_L, isRv_R, true_and, and_true, lset_0, lset_1, lset_s, avw_I, avw_L, avw_R, clr_cons, clr_nil, kst_0, kst_1, kstL_0, kstL_1, addk_I, pA_0, pA_s, pD_0, pD_s, wid_nil, wid_cons, rcv_c, putv_I, putv_L, List.length_cons, List.length_nil, List.set_cons_zero, List.set_cons_succ, not_false_eq_true, Nat.reduceMod, Nat.reduceDiv, Nat.reduceEqDiff, Nat.reduceLT, Nat.reduceLeDiff, Nat.reduceAdd, Nat.reduceSub, reduceIte, Nat.lt_irrefl, Nat.zero_ne_one, Nat.one_ne_zero, Nat.zero_add, List.nil_append, List.cons_append, Option.toList_some, Option.toList_none, forall_const, false_implies, true_implies, false_or, or_false, true_or, or_true, i_le, i_lt, i_eq, i_eq0, i_lt0, i_0le, i_0lt, i_le0, i_in1, i_cl, nI_add, pk_mul, pk_sub, i_div, i_rem, i_sh1, i_bit, i_or, i_and, i_andn, nt_le, nf_le, nt_lt, nf_lt, nt_eq, nf_eq, not_true_eq_false, and_self, and_false, false_and, eq_self, Bool.toNat_true, Bool.toNat_false, i_bool, i_bool1, Bool.false_eq_true, Bool.true_eq_false, reduceCtorEq, i_neg1, i_neg2, i_neg3, i_neg4, i_neg5, i_neg6, i_neg7, i_neg8, i_neg9, i_nega, i_negb, i_negc, i_max2, i_min2, wi_nil]
          repeat (
            first
            | refine s_X9_lots_0 ?_
            | refine s_X9_lots_8 ?_
            | refine s_X9_lots_19 ?_
            | refine s_X9_lots_26 ?_
            | refine s_X9_lots_27 ?_
            | refine s_X9_lots_30 ?_
            | refine s_X9_lots_37 ?_
            | refine s_X9_lots_51 ?_
            | refine s_X9_lots_109 ?_
            | refine s_X9_lots_122 ?_
            | refine s_X9_lots_133 ?_
            | refine s_X9_lots_140 ?_
            | refine s_X9_lots_149 ?_
            simp (disch := omega) only [B_X9_lots_0, wi_aload_n, wi_iload_n, wi_iconst, wi_bipush, wi_invokestatic, B_X9_lots_8, wi_if_eq, wi_ldc_w, B_X9_lots_19, wi_goto, B_X9_lots_26, B_X9_lots_27, wi_invokevirtual, cnt_8, B_X9_lots_30, wi_istore_n, wi_if_ge, wi_ireturn, B_X9_lots_37, wi_getfield, fldv_8_22, fds_8_22, wi_iadd, wi_icmp_le, B_X9_lots_51, wi_i2l, wi_lstore, wi_istore, B_X9_lots_61, wi_iload, wi_icmp_ge, wi_ldc2_w, wi_lload, wi_lmul, wi_lrem, wi_ldiv, fldv_8_10, fds_8_10, wi_l2i, fldv_8_20, fds_8_20, B_X9_lots_109, wi_ishl, wi_ixor, wi_iand, B_X9_lots_122, B_X9_lots_133, B_X9_lots_140, wi_iinc, B_X9_lots_149, no0, no1, nz1, nz2, nz3, nz4, nz5, nz7, nz8, Classical.not_not, bz0, bz1, wi_nil, ld_0, ld_s, isIv_I, isLv_L, isRv_R, true_and, and_true, lset_0, lset_1, lset_s, avw_I, avw_L, avw_R, clr_cons, clr_nil, kst_0, kst_1, kstL_0, kstL_1, addk_I, pA_0, pA_s, pD_0, pD_s, wid_nil, wid_cons, rcv_c, putv_I, putv_L, List.length_cons, List.length_nil, List.set_cons_zero, List.set_cons_succ, not_false_eq_true, Nat.reduceMod, Nat.reduceDiv, Nat.reduceEqDiff, Nat.reduceLT, Nat.reduceLeDiff, Nat.reduceAdd, Nat.reduceSub, reduceIte, Nat.lt_irrefl, Nat.zero_ne_one, Nat.one_ne_zero, Nat.zero_add, List.nil_append, List.cons_append, Option.toList_some, Option.toList_none, forall_const, false_implies, true_implies, false_or, or_false, true_or, or_true, i_le, i_lt, i_eq, i_eq0, i_lt0, i_0le, i_0lt, i_le0, i_in1, i_cl, nI_add, pk_mul, pk_sub, i_div, i_rem, i_sh1, i_bit, i_or, i_and, i_andn, nt_le, nf_le, nt_lt, nf_lt, nt_eq, nf_eq, not_true_eq_false, and_self, and_false, false_and, eq_self, Bool.toNat_true, Bool.toNat_false, i_bool, i_bool1, Bool.false_eq_true, Bool.true_eq_false, reduceCtorEq, i_neg1, i_neg2, i_neg3, i_neg4, i_neg5, i_neg6, i_neg7, i_neg8, i_neg9, i_nega, i_negb, i_negc, i_max2, i_min2])
          refine c_needK hmT hn5 e0 ?_
          try simp (disch := omega) only [no0, no1, nz1, nz2, nz3, nz4, nz5, nz7, nz8, Classical.not_not, bz0, bz1, wi_nil, ld_0, ld_s, isIv_I, isLv_L, isRv_R, true_and, and_true, lset_0, lset_1, lset_s, avw_I, avw_L, avw_R, clr_cons, clr_nil, kst_0, kst_1, kstL_0, kstL_1, addk_I, pA_0, pA_s, pD_0, pD_s, wid_nil, wid_cons, rcv_c, putv_I, putv_L, List.length_cons, List.length_nil, List.set_cons_zero, List.set_cons_succ, not_false_eq_true, Nat.reduceMod, Nat.reduceDiv, Nat.reduceEqDiff, Nat.reduceLT, Nat.reduceLeDiff, Nat.reduceAdd, Nat.reduceSub, reduceIte, Nat.lt_irrefl, Nat.zero_ne_one, Nat.one_ne_zero, Nat.zero_add, List.nil_append, List.cons_append, Option.toList_some, Option.toList_none, forall_const, false_implies, true_implies, false_or, or_false, true_or, or_true, i_le, i_lt, i_eq, i_eq0, i_lt0, i_0le, i_0lt, i_le0, i_in1, i_cl, nI_add, pk_mul, pk_sub, i_div, i_rem, i_sh1, i_bit, i_or, i_and, i_andn, nt_le, nf_le, nt_lt, nf_lt, nt_eq, nf_eq, not_true_eq_false, and_self, and_false, false_and, eq_self, Bool.toNat_true, Bool.toNat_false, i_bool, i_bool1, Bool.false_eq_true, Bool.true_eq_false, reduceCtorEq, i_neg1, i_neg2, i_neg3, i_neg4, i_neg5, i_neg6, i_neg7, i_neg8, i_neg9, i_nega, i_negb, i_negc, i_max2, i_min2, hlT.1, nI_l, wi_nil]
          repeat (
            first
            | refine s_X9_lots_0 ?_
            | refine s_X9_lots_8 ?_
            | refine s_X9_lots_19 ?_
            | refine s_X9_lots_26 ?_
            | refine s_X9_lots_27 ?_
            | refine s_X9_lots_30 ?_
            | refine s_X9_lots_37 ?_
            | refine s_X9_lots_51 ?_
            | refine s_X9_lots_109 ?_
            | refine s_X9_lots_122 ?_
            | refine s_X9_lots_133 ?_
            | refine s_X9_lots_140 ?_
            | refine s_X9_lots_149 ?_
            simp (disch := omega) only [B_X9_lots_0, wi_aload_n, wi_iload_n, wi_iconst, wi_bipush, wi_invokestatic, B_X9_lots_8, wi_if_eq, wi_ldc_w, B_X9_lots_19, wi_goto, B_X9_lots_26, B_X9_lots_27, wi_invokevirtual, cnt_8, B_X9_lots_30, wi_istore_n, wi_if_ge, wi_ireturn, B_X9_lots_37, wi_getfield, fldv_8_22, fds_8_22, wi_iadd, wi_icmp_le, B_X9_lots_51, wi_i2l, wi_lstore, wi_istore, B_X9_lots_61, wi_iload, wi_icmp_ge, wi_ldc2_w, wi_lload, wi_lmul, wi_lrem, wi_ldiv, fldv_8_10, fds_8_10, wi_l2i, fldv_8_20, fds_8_20, B_X9_lots_109, wi_ishl, wi_ixor, wi_iand, B_X9_lots_122, B_X9_lots_133, B_X9_lots_140, wi_iinc, B_X9_lots_149, no0, no1, nz1, nz2, nz3, nz4, nz5, nz7, nz8, Classical.not_not, bz0, bz1, wi_nil, ld_0, ld_s, isIv_I, isLv_L, isRv_R, true_and, and_true, lset_0, lset_1, lset_s, avw_I, avw_L, avw_R, clr_cons, clr_nil, kst_0, kst_1, kstL_0, kstL_1, addk_I, pA_0, pA_s, pD_0, pD_s, wid_nil, wid_cons, rcv_c, putv_I, putv_L, List.length_cons, List.length_nil, List.set_cons_zero, List.set_cons_succ, not_false_eq_true, Nat.reduceMod, Nat.reduceDiv, Nat.reduceEqDiff, Nat.reduceLT, Nat.reduceLeDiff, Nat.reduceAdd, Nat.reduceSub, reduceIte, Nat.lt_irrefl, Nat.zero_ne_one, Nat.one_ne_zero, Nat.zero_add, List.nil_append, List.cons_append, Option.toList_some, Option.toList_none, forall_const, false_implies, true_implies, false_or, or_false, true_or, or_true, i_le, i_lt, i_eq, i_eq0, i_lt0, i_0le, i_0lt, i_le0, i_in1, i_cl, nI_add, pk_mul, pk_sub, i_div, i_rem, i_sh1, i_bit, i_or, i_and, i_andn, nt_le, nf_le, nt_lt, nf_lt, nt_eq, nf_eq, not_true_eq_false, and_self, and_false, false_and, eq_self, Bool.toNat_true, Bool.toNat_false, i_bool, i_bool1, Bool.false_eq_true, Bool.true_eq_false, reduceCtorEq, i_neg1, i_neg2, i_neg3, i_neg4, i_neg5, i_neg6, i_neg7, i_neg8, i_neg9, i_nega, i_negb, i_negc, i_max2, i_min2, hlT.1, nI_l])
          refine l_mlots (S0 := T) (R := lotR Y0 n as v 0) h0 (by omega) n20 (fun U m1 m2 fm => ?_) n 0 as v 0 T (by omega) (by omega) (by omega) (by omega) rfl hlT hmT hac Fr.refl
          exact pm (rr_acts h h3 fx fm x1 x2 m1 m2 ha2)
    · have key : wpM (d + 10) mX9_lots [aR 8 0, aI n, aI v] S (PM (-nI 1)) := by
        refine x_entry (ls2 := [aR 8 0, aI n, aI v, aU, aU, aU, aU, aU, aU, aU]) (Nat.le_of_ble_eq_true rfl) pl_9 rfl (Nat.le_of_ble_eq_true rfl) ?_
        try simp (disch := omega) only [no0, no1, nz1, nz2, nz3, nz4, nz5, nz7, nz8, Classical.not_not, bz0, bz1, wi_nil, ld_0, ld_s, isIv_I, isLv_L, isRv_R, true_and, and_true, lset_0, lset_1, lset_s, avw_I, avw_L, avw_R, clr_cons, clr_nil, kst_0, kst_1, kstL_0, kstL_1, addk_I, pA_0, pA_s, pD_0, pD_s, wid_nil, wid_cons, rcv_c, putv_I, putv_L, List.length_cons, List.length_nil, List.set_cons_zero, List.set_cons_succ, not_false_eq_true, Nat.reduceMod, Nat.reduceDiv, Nat.reduceEqDiff, Nat.reduceLT, Nat.reduceLeDiff, Nat.reduceAdd, Nat.reduceSub, reduceIte, Nat.lt_irrefl, Nat.zero_ne_one, Nat.one_ne_zero, Nat.zero_add, List.nil_append, List.cons_append, Option.toList_some, Option.toList_none, forall_const, false_implies, true_implies, false_or, or_false, true_or, or_true, i_le, i_lt, i_eq, i_eq0, i_lt0, i_0le, i_0lt, i_le0, i_in1, i_cl, nI_add, pk_mul, pk_sub, i_div, i_rem, i_sh1, i_bit, i_or, i_and, i_andn, nt_le, nf_le, nt_lt, nf_lt, nt_eq, nf_eq, not_true_eq_false, and_self, and_false, false_and, eq_self, Bool.toNat_true, Bool.toNat_false, i_bool, i_bool1, Bool.false_eq_true, Bool.true_eq_false, reduceCtorEq, i_neg1, i_neg2, i_neg3, i_neg4, i_neg5, i_neg6, i_neg7, i_neg8, i_neg9, i_nega, i_negb, i_negc, i_max2, i_min2, wi_nil]
        repeat (
          first
          | refine s_X9_lots_0 ?_
          | refine s_X9_lots_8 ?_
          | refine s_X9_lots_19 ?_
          | refine s_X9_lots_26 ?_
          | refine s_X9_lots_27 ?_
          | refine s_X9_lots_30 ?_
          | refine s_X9_lots_37 ?_
          | refine s_X9_lots_51 ?_
          | refine s_X9_lots_109 ?_
          | refine s_X9_lots_122 ?_
          | refine s_X9_lots_133 ?_
          | refine s_X9_lots_140 ?_
          | refine s_X9_lots_149 ?_
          simp (disch := omega) only [B_X9_lots_0, wi_aload_n, wi_iload_n, wi_iconst, wi_bipush, wi_invokestatic, B_X9_lots_8, wi_if_eq, wi_ldc_w, B_X9_lots_19, wi_goto, B_X9_lots_26, B_X9_lots_27, wi_invokevirtual, cnt_8, B_X9_lots_30, wi_istore_n, wi_if_ge, wi_ireturn, B_X9_lots_37, wi_getfield, fldv_8_22, fds_8_22, wi_iadd, wi_icmp_le, B_X9_lots_51, wi_i2l, wi_lstore, wi_istore, B_X9_lots_61, wi_iload, wi_icmp_ge, wi_ldc2_w, wi_lload, wi_lmul, wi_lrem, wi_ldiv, fldv_8_10, fds_8_10, wi_l2i, fldv_8_20, fds_8_20, B_X9_lots_109, wi_ishl, wi_ixor, wi_iand, B_X9_lots_122, B_X9_lots_133, B_X9_lots_140, wi_iinc, B_X9_lots_149, no0, no1, nz1, nz2, nz3, nz4, nz5, nz7, nz8, Classical.not_not, bz0, bz1, wi_nil, ld_0, ld_s, isIv_I, isLv_L, isRv_R, true_and, and_true, lset_0, lset_1, lset_s, avw_I, avw_L, avw_R, clr_cons, clr_nil, kst_0, kst_1, kstL_0, kstL_1, addk_I, pA_0, pA_s, pD_0, pD_s, wid_nil, wid_cons, rcv_c, putv_I, putv_L, List.length_cons, List.length_nil, List.set_cons_zero, List.set_cons_succ, not_false_eq_true, Nat.reduceMod, Nat.reduceDiv, Nat.reduceEqDiff, Nat.reduceLT, Nat.reduceLeDiff, Nat.reduceAdd, Nat.reduceSub, reduceIte, Nat.lt_irrefl, Nat.zero_ne_one, Nat.one_ne_zero, Nat.zero_add, List.nil_append, List.cons_append, Option.toList_some, Option.toList_none, forall_const, false_implies, true_implies, false_or, or_false, true_or, or_true, i_le, i_lt, i_eq, i_eq0, i_lt0, i_0le, i_0lt, i_le0, i_in1, i_cl, nI_add, pk_mul, pk_sub, i_div, i_rem, i_sh1, i_bit, i_or, i_and, i_andn, nt_le, nf_le, nt_lt, nf_lt, nt_eq, nf_eq, not_true_eq_false, and_self, and_false, false_and, eq_self, Bool.toNat_true, Bool.toNat_false, i_bool, i_bool1, Bool.false_eq_true, Bool.true_eq_false, reduceCtorEq, i_neg1, i_neg2, i_neg3, i_neg4, i_neg5, i_neg6, i_neg7, i_neg8, i_neg9, i_nega, i_negb, i_negc, i_max2, i_min2])
        refine c_in (b := true) ⟨fun _ => rfl, fun _ => h1⟩ ?_
        try simp (disch := omega) only [no0, no1, nz1, nz2, nz3, nz4, nz5, nz7, nz8, Classical.not_not, bz0, bz1, wi_nil, ld_0, ld_s, isIv_I, isLv_L, isRv_R, true_and, and_true, lset_0, lset_1, lset_s, avw_I, avw_L, avw_R, clr_cons, clr_nil, kst_0, kst_1, kstL_0, kstL_1, addk_I, pA_0, pA_s, pD_0, pD_s, wid_nil, wid_cons, rcv_c, putv_I, putv_L, List.length_cons, List.length_nil, List.set_cons_zero, List.set_cons_succ, not_false_eq_true, Nat.reduceMod, Nat.reduceDiv, Nat.reduceEqDiff, Nat.reduceLT, Nat.reduceLeDiff, Nat.reduceAdd, Nat.reduceSub, reduceIte, Nat.lt_irrefl, Nat.zero_ne_one, Nat.one_ne_zero, Nat.zero_add, List.nil_append, List.cons_append, Option.toList_some, Option.toList_none, forall_const, false_implies, true_implies, false_or, or_false, true_or, or_true, i_le, i_lt, i_eq, i_eq0, i_lt0, i_0le, i_0lt, i_le0, i_in1, i_cl, nI_add, pk_mul, pk_sub, i_div, i_rem, i_sh1, i_bit, i_or, i_and, i_andn, nt_le, nf_le, nt_lt, nf_lt, nt_eq, nf_eq, not_true_eq_false, and_self, and_false, false_and, eq_self, Bool.toNat_true, Bool.toNat_false, i_bool, i_bool1, Bool.false_eq_true, Bool.true_eq_false, reduceCtorEq, i_neg1, i_neg2, i_neg3, i_neg4, i_neg5, i_neg6, i_neg7, i_neg8, i_neg9, i_nega, i_negb, i_negc, i_max2, i_min2, wi_nil]
        repeat (
          first
          | refine s_X9_lots_0 ?_
          | refine s_X9_lots_8 ?_
          | refine s_X9_lots_19 ?_
          | refine s_X9_lots_26 ?_
          | refine s_X9_lots_27 ?_
          | refine s_X9_lots_30 ?_
          | refine s_X9_lots_37 ?_
          | refine s_X9_lots_51 ?_
          | refine s_X9_lots_109 ?_
          | refine s_X9_lots_122 ?_
          | refine s_X9_lots_133 ?_
          | refine s_X9_lots_140 ?_
          | refine s_X9_lots_149 ?_
          simp (disch := omega) only [B_X9_lots_0, wi_aload_n, wi_iload_n, wi_iconst, wi_bipush, wi_invokestatic, B_X9_lots_8, wi_if_eq, wi_ldc_w, B_X9_lots_19, wi_goto, B_X9_lots_26, B_X9_lots_27, wi_invokevirtual, cnt_8, B_X9_lots_30, wi_istore_n, wi_if_ge, wi_ireturn, B_X9_lots_37, wi_getfield, fldv_8_22, fds_8_22, wi_iadd, wi_icmp_le, B_X9_lots_51, wi_i2l, wi_lstore, wi_istore, B_X9_lots_61, wi_iload, wi_icmp_ge, wi_ldc2_w, wi_lload, wi_lmul, wi_lrem, wi_ldiv, fldv_8_10, fds_8_10, wi_l2i, fldv_8_20, fds_8_20, B_X9_lots_109, wi_ishl, wi_ixor, wi_iand, B_X9_lots_122, B_X9_lots_133, B_X9_lots_140, wi_iinc, B_X9_lots_149, no0, no1, nz1, nz2, nz3, nz4, nz5, nz7, nz8, Classical.not_not, bz0, bz1, wi_nil, ld_0, ld_s, isIv_I, isLv_L, isRv_R, true_and, and_true, lset_0, lset_1, lset_s, avw_I, avw_L, avw_R, clr_cons, clr_nil, kst_0, kst_1, kstL_0, kstL_1, addk_I, pA_0, pA_s, pD_0, pD_s, wid_nil, wid_cons, rcv_c, putv_I, putv_L, List.length_cons, List.length_nil, List.set_cons_zero, List.set_cons_succ, not_false_eq_true, Nat.reduceMod, Nat.reduceDiv, Nat.reduceEqDiff, Nat.reduceLT, Nat.reduceLeDiff, Nat.reduceAdd, Nat.reduceSub, reduceIte, Nat.lt_irrefl, Nat.zero_ne_one, Nat.one_ne_zero, Nat.zero_add, List.nil_append, List.cons_append, Option.toList_some, Option.toList_none, forall_const, false_implies, true_implies, false_or, or_false, true_or, or_true, i_le, i_lt, i_eq, i_eq0, i_lt0, i_0le, i_0lt, i_le0, i_in1, i_cl, nI_add, pk_mul, pk_sub, i_div, i_rem, i_sh1, i_bit, i_or, i_and, i_andn, nt_le, nf_le, nt_lt, nf_lt, nt_eq, nf_eq, not_true_eq_false, and_self, and_false, false_and, eq_self, Bool.toNat_true, Bool.toNat_false, i_bool, i_bool1, Bool.false_eq_true, Bool.true_eq_false, reduceCtorEq, i_neg1, i_neg2, i_neg3, i_neg4, i_neg5, i_neg6, i_neg7, i_neg8, i_neg9, i_nega, i_negb, i_negc, i_max2, i_min2])
        refine c_in (b := false) ⟨fun q => absurd q h2, fun q => by cases q⟩ ?_
        try simp (disch := omega) only [no0, no1, nz1, nz2, nz3, nz4, nz5, nz7, nz8, Classical.not_not, bz0, bz1, wi_nil, ld_0, ld_s, isIv_I, isLv_L, isRv_R, true_and, and_true, lset_0, lset_1, lset_s, avw_I, avw_L, avw_R, clr_cons, clr_nil, kst_0, kst_1, kstL_0, kstL_1, addk_I, pA_0, pA_s, pD_0, pD_s, wid_nil, wid_cons, rcv_c, putv_I, putv_L, List.length_cons, List.length_nil, List.set_cons_zero, List.set_cons_succ, not_false_eq_true, Nat.reduceMod, Nat.reduceDiv, Nat.reduceEqDiff, Nat.reduceLT, Nat.reduceLeDiff, Nat.reduceAdd, Nat.reduceSub, reduceIte, Nat.lt_irrefl, Nat.zero_ne_one, Nat.one_ne_zero, Nat.zero_add, List.nil_append, List.cons_append, Option.toList_some, Option.toList_none, forall_const, false_implies, true_implies, false_or, or_false, true_or, or_true, i_le, i_lt, i_eq, i_eq0, i_lt0, i_0le, i_0lt, i_le0, i_in1, i_cl, nI_add, pk_mul, pk_sub, i_div, i_rem, i_sh1, i_bit, i_or, i_and, i_andn, nt_le, nf_le, nt_lt, nf_lt, nt_eq, nf_eq, not_true_eq_false, and_self, and_false, false_and, eq_self, Bool.toNat_true, Bool.toNat_false, i_bool, i_bool1, Bool.false_eq_true, Bool.true_eq_false, reduceCtorEq, i_neg1, i_neg2, i_neg3, i_neg4, i_neg5, i_neg6, i_neg7, i_neg8, i_neg9, i_nega, i_negb, i_negc, i_max2, i_min2, wi_nil]
        repeat (
          first
          | refine s_X9_lots_0 ?_
          | refine s_X9_lots_8 ?_
          | refine s_X9_lots_19 ?_
          | refine s_X9_lots_26 ?_
          | refine s_X9_lots_27 ?_
          | refine s_X9_lots_30 ?_
          | refine s_X9_lots_37 ?_
          | refine s_X9_lots_51 ?_
          | refine s_X9_lots_109 ?_
          | refine s_X9_lots_122 ?_
          | refine s_X9_lots_133 ?_
          | refine s_X9_lots_140 ?_
          | refine s_X9_lots_149 ?_
          simp (disch := omega) only [B_X9_lots_0, wi_aload_n, wi_iload_n, wi_iconst, wi_bipush, wi_invokestatic, B_X9_lots_8, wi_if_eq, wi_ldc_w, B_X9_lots_19, wi_goto, B_X9_lots_26, B_X9_lots_27, wi_invokevirtual, cnt_8, B_X9_lots_30, wi_istore_n, wi_if_ge, wi_ireturn, B_X9_lots_37, wi_getfield, fldv_8_22, fds_8_22, wi_iadd, wi_icmp_le, B_X9_lots_51, wi_i2l, wi_lstore, wi_istore, B_X9_lots_61, wi_iload, wi_icmp_ge, wi_ldc2_w, wi_lload, wi_lmul, wi_lrem, wi_ldiv, fldv_8_10, fds_8_10, wi_l2i, fldv_8_20, fds_8_20, B_X9_lots_109, wi_ishl, wi_ixor, wi_iand, B_X9_lots_122, B_X9_lots_133, B_X9_lots_140, wi_iinc, B_X9_lots_149, no0, no1, nz1, nz2, nz3, nz4, nz5, nz7, nz8, Classical.not_not, bz0, bz1, wi_nil, ld_0, ld_s, isIv_I, isLv_L, isRv_R, true_and, and_true, lset_0, lset_1, lset_s, avw_I, avw_L, avw_R, clr_cons, clr_nil, kst_0, kst_1, kstL_0, kstL_1, addk_I, pA_0, pA_s, pD_0, pD_s, wid_nil, wid_cons, rcv_c, putv_I, putv_L, List.length_cons, List.length_nil, List.set_cons_zero, List.set_cons_succ, not_false_eq_true, Nat.reduceMod, Nat.reduceDiv, Nat.reduceEqDiff, Nat.reduceLT, Nat.reduceLeDiff, Nat.reduceAdd, Nat.reduceSub, reduceIte, Nat.lt_irrefl, Nat.zero_ne_one, Nat.one_ne_zero, Nat.zero_add, List.nil_append, List.cons_append, Option.toList_some, Option.toList_none, forall_const, false_implies, true_implies, false_or, or_false, true_or, or_true, i_le, i_lt, i_eq, i_eq0, i_lt0, i_0le, i_0lt, i_le0, i_in1, i_cl, nI_add, pk_mul, pk_sub, i_div, i_rem, i_sh1, i_bit, i_or, i_and, i_andn, nt_le, nf_le, nt_lt, nf_lt, nt_eq, nf_eq, not_true_eq_false, and_self, and_false, false_and, eq_self, Bool.toNat_true, Bool.toNat_false, i_bool, i_bool1, Bool.false_eq_true, Bool.true_eq_false, reduceCtorEq, i_neg1, i_neg2, i_neg3, i_neg4, i_neg5, i_neg6, i_neg7, i_neg8, i_neg9, i_nega, i_negb, i_negc, i_max2, i_min2])
        refine c_need0 hm hn5 ?_
        try simp (disch := omega) only [no0, no1, nz1, nz2, nz3, nz4, nz5, nz7, nz8, Classical.not_not, bz0, bz1, wi_nil, ld_0, ld_s, isIv_I, isLv_L, isRv_R, true_and, and_true, lset_0, lset_1, lset_s, avw_I, avw_L, avw_R, clr_cons, clr_nil, kst_0, kst_1, kstL_0, kstL_1, addk_I, pA_0, pA_s, pD_0, pD_s, wid_nil, wid_cons, rcv_c, putv_I, putv_L, List.length_cons, List.length_nil, List.set_cons_zero, List.set_cons_succ, not_false_eq_true, Nat.reduceMod, Nat.reduceDiv, Nat.reduceEqDiff, Nat.reduceLT, Nat.reduceLeDiff, Nat.reduceAdd, Nat.reduceSub, reduceIte, Nat.lt_irrefl, Nat.zero_ne_one, Nat.one_ne_zero, Nat.zero_add, List.nil_append, List.cons_append, Option.toList_some, Option.toList_none, forall_const, false_implies, true_implies, false_or, or_false, true_or, or_true, i_le, i_lt, i_eq, i_eq0, i_lt0, i_0le, i_0lt, i_le0, i_in1, i_cl, nI_add, pk_mul, pk_sub, i_div, i_rem, i_sh1, i_bit, i_or, i_and, i_andn, nt_le, nf_le, nt_lt, nf_lt, nt_eq, nf_eq, not_true_eq_false, and_self, and_false, false_and, eq_self, Bool.toNat_true, Bool.toNat_false, i_bool, i_bool1, Bool.false_eq_true, Bool.true_eq_false, reduceCtorEq, i_neg1, i_neg2, i_neg3, i_neg4, i_neg5, i_neg6, i_neg7, i_neg8, i_neg9, i_nega, i_negb, i_negc, i_max2, i_min2, wi_nil]
        repeat (
          first
          | refine s_X9_lots_0 ?_
          | refine s_X9_lots_8 ?_
          | refine s_X9_lots_19 ?_
          | refine s_X9_lots_26 ?_
          | refine s_X9_lots_27 ?_
          | refine s_X9_lots_30 ?_
          | refine s_X9_lots_37 ?_
          | refine s_X9_lots_51 ?_
          | refine s_X9_lots_109 ?_
          | refine s_X9_lots_122 ?_
          | refine s_X9_lots_133 ?_
          | refine s_X9_lots_140 ?_
          | refine s_X9_lots_149 ?_
          simp (disch := omega) only [B_X9_lots_0, wi_aload_n, wi_iload_n, wi_iconst, wi_bipush, wi_invokestatic, B_X9_lots_8, wi_if_eq, wi_ldc_w, B_X9_lots_19, wi_goto, B_X9_lots_26, B_X9_lots_27, wi_invokevirtual, cnt_8, B_X9_lots_30, wi_istore_n, wi_if_ge, wi_ireturn, B_X9_lots_37, wi_getfield, fldv_8_22, fds_8_22, wi_iadd, wi_icmp_le, B_X9_lots_51, wi_i2l, wi_lstore, wi_istore, B_X9_lots_61, wi_iload, wi_icmp_ge, wi_ldc2_w, wi_lload, wi_lmul, wi_lrem, wi_ldiv, fldv_8_10, fds_8_10, wi_l2i, fldv_8_20, fds_8_20, B_X9_lots_109, wi_ishl, wi_ixor, wi_iand, B_X9_lots_122, B_X9_lots_133, B_X9_lots_140, wi_iinc, B_X9_lots_149, no0, no1, nz1, nz2, nz3, nz4, nz5, nz7, nz8, Classical.not_not, bz0, bz1, wi_nil, ld_0, ld_s, isIv_I, isLv_L, isRv_R, true_and, and_true, lset_0, lset_1, lset_s, avw_I, avw_L, avw_R, clr_cons, clr_nil, kst_0, kst_1, kstL_0, kstL_1, addk_I, pA_0, pA_s, pD_0, pD_s, wid_nil, wid_cons, rcv_c, putv_I, putv_L, List.length_cons, List.length_nil, List.set_cons_zero, List.set_cons_succ, not_false_eq_true, Nat.reduceMod, Nat.reduceDiv, Nat.reduceEqDiff, Nat.reduceLT, Nat.reduceLeDiff, Nat.reduceAdd, Nat.reduceSub, reduceIte, Nat.lt_irrefl, Nat.zero_ne_one, Nat.one_ne_zero, Nat.zero_add, List.nil_append, List.cons_append, Option.toList_some, Option.toList_none, forall_const, false_implies, true_implies, false_or, or_false, true_or, or_true, i_le, i_lt, i_eq, i_eq0, i_lt0, i_0le, i_0lt, i_le0, i_in1, i_cl, nI_add, pk_mul, pk_sub, i_div, i_rem, i_sh1, i_bit, i_or, i_and, i_andn, nt_le, nf_le, nt_lt, nf_lt, nt_eq, nf_eq, not_true_eq_false, and_self, and_false, false_and, eq_self, Bool.toNat_true, Bool.toNat_false, i_bool, i_bool1, Bool.false_eq_true, Bool.true_eq_false, reduceCtorEq, i_neg1, i_neg2, i_neg3, i_neg4, i_neg5, i_neg6, i_neg7, i_neg8, i_neg9, i_nega, i_negb, i_negc, i_max2, i_min2])
        exact pm h
      have bad := key0 key
      refine x_entry (ls2 := [aR 7 0, aI n, aI v, aU, aU, aU, aU, aU, aU]) (Nat.le_of_ble_eq_true rfl) pl_8 rfl (Nat.le_of_ble_eq_true rfl) ?_
      refine s_X8_lots_0 ?_
      simp (disch := omega) only [B_X8_lots_0, wi_iload_n, wi_iconst, wi_icmp_lt, wi_bipush, wi_icmp_gt, wi_ldc_w, no0, no1, nz1, nz2, nz3, nz4, nz5, nz7, nz8, Classical.not_not, bz0, bz1, wi_nil, ld_0, ld_s, isIv_I, isLv_L, isRv_R, true_and, and_true, lset_0, lset_1, lset_s, avw_I, avw_L, avw_R, clr_cons, clr_nil, kst_0, kst_1, kstL_0, kstL_1, addk_I, pA_0, pA_s, pD_0, pD_s, wid_nil, wid_cons, rcv_c, putv_I, putv_L, List.length_cons, List.length_nil, List.set_cons_zero, List.set_cons_succ, not_false_eq_true, Nat.reduceMod, Nat.reduceDiv, Nat.reduceEqDiff, Nat.reduceLT, Nat.reduceLeDiff, Nat.reduceAdd, Nat.reduceSub, reduceIte, Nat.lt_irrefl, Nat.zero_ne_one, Nat.one_ne_zero, Nat.zero_add, List.nil_append, List.cons_append, Option.toList_some, Option.toList_none, forall_const, false_implies, true_implies, false_or, or_false, true_or, or_true, i_le, i_lt, i_eq, i_eq0, i_lt0, i_0le, i_0lt, i_le0, i_in1, i_cl, nI_add, pk_mul, pk_sub, i_div, i_rem, i_sh1, i_bit, i_or, i_and, i_andn, nt_le, nf_le, nt_lt, nf_lt, nt_eq, nf_eq, not_true_eq_false, and_self, and_false, false_and, eq_self, Bool.toNat_true, Bool.toNat_false, i_bool, i_bool1, Bool.false_eq_true, Bool.true_eq_false, reduceCtorEq, i_neg1, i_neg2, i_neg3, i_neg4, i_neg5, i_neg6, i_neg7, i_neg8, i_neg9, i_nega, i_negb, i_negc, i_max2, i_min2]
      refine ⟨fun _ => bad, fun a => ⟨fun _ => bad, fun b => ⟨fun _ => bad, fun c => ⟨fun e => absurd ⟨?_, ?_⟩ h2, fun _ => bad⟩⟩⟩⟩
      · rw [Int32.lt_iff_toInt_lt] at c
        rw [Int32.le_iff_toInt_le]
        omega
      · rw [Int32.lt_iff_toInt_lt, eM] at e
        rw [Int32.le_iff_toInt_le, eM6]
        omega
  · have key : wpM (d + 10) mX9_lots [aR 8 0, aI n, aI v] S (PM (-nI 1)) := by
      refine x_entry (ls2 := [aR 8 0, aI n, aI v, aU, aU, aU, aU, aU, aU, aU]) (Nat.le_of_ble_eq_true rfl) pl_9 rfl (Nat.le_of_ble_eq_true rfl) ?_
      try simp (disch := omega) only [no0, no1, nz1, nz2, nz3, nz4, nz5, nz7, nz8, Classical.not_not, bz0, bz1, wi_nil, ld_0, ld_s, isIv_I, isLv_L, isRv_R, true_and, and_true, lset_0, lset_1, lset_s, avw_I, avw_L, avw_R, clr_cons, clr_nil, kst_0, kst_1, kstL_0, kstL_1, addk_I, pA_0, pA_s, pD_0, pD_s, wid_nil, wid_cons, rcv_c, putv_I, putv_L, List.length_cons, List.length_nil, List.set_cons_zero, List.set_cons_succ, not_false_eq_true, Nat.reduceMod, Nat.reduceDiv, Nat.reduceEqDiff, Nat.reduceLT, Nat.reduceLeDiff, Nat.reduceAdd, Nat.reduceSub, reduceIte, Nat.lt_irrefl, Nat.zero_ne_one, Nat.one_ne_zero, Nat.zero_add, List.nil_append, List.cons_append, Option.toList_some, Option.toList_none, forall_const, false_implies, true_implies, false_or, or_false, true_or, or_true, i_le, i_lt, i_eq, i_eq0, i_lt0, i_0le, i_0lt, i_le0, i_in1, i_cl, nI_add, pk_mul, pk_sub, i_div, i_rem, i_sh1, i_bit, i_or, i_and, i_andn, nt_le, nf_le, nt_lt, nf_lt, nt_eq, nf_eq, not_true_eq_false, and_self, and_false, false_and, eq_self, Bool.toNat_true, Bool.toNat_false, i_bool, i_bool1, Bool.false_eq_true, Bool.true_eq_false, reduceCtorEq, i_neg1, i_neg2, i_neg3, i_neg4, i_neg5, i_neg6, i_neg7, i_neg8, i_neg9, i_nega, i_negb, i_negc, i_max2, i_min2, wi_nil]
      repeat (
        first
        | refine s_X9_lots_0 ?_
        | refine s_X9_lots_8 ?_
        | refine s_X9_lots_19 ?_
        | refine s_X9_lots_26 ?_
        | refine s_X9_lots_27 ?_
        | refine s_X9_lots_30 ?_
        | refine s_X9_lots_37 ?_
        | refine s_X9_lots_51 ?_
        | refine s_X9_lots_109 ?_
        | refine s_X9_lots_122 ?_
        | refine s_X9_lots_133 ?_
        | refine s_X9_lots_140 ?_
        | refine s_X9_lots_149 ?_
        simp (disch := omega) only [B_X9_lots_0, wi_aload_n, wi_iload_n, wi_iconst, wi_bipush, wi_invokestatic, B_X9_lots_8, wi_if_eq, wi_ldc_w, B_X9_lots_19, wi_goto, B_X9_lots_26, B_X9_lots_27, wi_invokevirtual, cnt_8, B_X9_lots_30, wi_istore_n, wi_if_ge, wi_ireturn, B_X9_lots_37, wi_getfield, fldv_8_22, fds_8_22, wi_iadd, wi_icmp_le, B_X9_lots_51, wi_i2l, wi_lstore, wi_istore, B_X9_lots_61, wi_iload, wi_icmp_ge, wi_ldc2_w, wi_lload, wi_lmul, wi_lrem, wi_ldiv, fldv_8_10, fds_8_10, wi_l2i, fldv_8_20, fds_8_20, B_X9_lots_109, wi_ishl, wi_ixor, wi_iand, B_X9_lots_122, B_X9_lots_133, B_X9_lots_140, wi_iinc, B_X9_lots_149, no0, no1, nz1, nz2, nz3, nz4, nz5, nz7, nz8, Classical.not_not, bz0, bz1, wi_nil, ld_0, ld_s, isIv_I, isLv_L, isRv_R, true_and, and_true, lset_0, lset_1, lset_s, avw_I, avw_L, avw_R, clr_cons, clr_nil, kst_0, kst_1, kstL_0, kstL_1, addk_I, pA_0, pA_s, pD_0, pD_s, wid_nil, wid_cons, rcv_c, putv_I, putv_L, List.length_cons, List.length_nil, List.set_cons_zero, List.set_cons_succ, not_false_eq_true, Nat.reduceMod, Nat.reduceDiv, Nat.reduceEqDiff, Nat.reduceLT, Nat.reduceLeDiff, Nat.reduceAdd, Nat.reduceSub, reduceIte, Nat.lt_irrefl, Nat.zero_ne_one, Nat.one_ne_zero, Nat.zero_add, List.nil_append, List.cons_append, Option.toList_some, Option.toList_none, forall_const, false_implies, true_implies, false_or, or_false, true_or, or_true, i_le, i_lt, i_eq, i_eq0, i_lt0, i_0le, i_0lt, i_le0, i_in1, i_cl, nI_add, pk_mul, pk_sub, i_div, i_rem, i_sh1, i_bit, i_or, i_and, i_andn, nt_le, nf_le, nt_lt, nf_lt, nt_eq, nf_eq, not_true_eq_false, and_self, and_false, false_and, eq_self, Bool.toNat_true, Bool.toNat_false, i_bool, i_bool1, Bool.false_eq_true, Bool.true_eq_false, reduceCtorEq, i_neg1, i_neg2, i_neg3, i_neg4, i_neg5, i_neg6, i_neg7, i_neg8, i_neg9, i_nega, i_negb, i_negc, i_max2, i_min2])
      refine c_in (b := false) ⟨fun q => absurd q h1, fun q => by cases q⟩ ?_
      try simp (disch := omega) only [no0, no1, nz1, nz2, nz3, nz4, nz5, nz7, nz8, Classical.not_not, bz0, bz1, wi_nil, ld_0, ld_s, isIv_I, isLv_L, isRv_R, true_and, and_true, lset_0, lset_1, lset_s, avw_I, avw_L, avw_R, clr_cons, clr_nil, kst_0, kst_1, kstL_0, kstL_1, addk_I, pA_0, pA_s, pD_0, pD_s, wid_nil, wid_cons, rcv_c, putv_I, putv_L, List.length_cons, List.length_nil, List.set_cons_zero, List.set_cons_succ, not_false_eq_true, Nat.reduceMod, Nat.reduceDiv, Nat.reduceEqDiff, Nat.reduceLT, Nat.reduceLeDiff, Nat.reduceAdd, Nat.reduceSub, reduceIte, Nat.lt_irrefl, Nat.zero_ne_one, Nat.one_ne_zero, Nat.zero_add, List.nil_append, List.cons_append, Option.toList_some, Option.toList_none, forall_const, false_implies, true_implies, false_or, or_false, true_or, or_true, i_le, i_lt, i_eq, i_eq0, i_lt0, i_0le, i_0lt, i_le0, i_in1, i_cl, nI_add, pk_mul, pk_sub, i_div, i_rem, i_sh1, i_bit, i_or, i_and, i_andn, nt_le, nf_le, nt_lt, nf_lt, nt_eq, nf_eq, not_true_eq_false, and_self, and_false, false_and, eq_self, Bool.toNat_true, Bool.toNat_false, i_bool, i_bool1, Bool.false_eq_true, Bool.true_eq_false, reduceCtorEq, i_neg1, i_neg2, i_neg3, i_neg4, i_neg5, i_neg6, i_neg7, i_neg8, i_neg9, i_nega, i_negb, i_negc, i_max2, i_min2, wi_nil]
      repeat (
        first
        | refine s_X9_lots_0 ?_
        | refine s_X9_lots_8 ?_
        | refine s_X9_lots_19 ?_
        | refine s_X9_lots_26 ?_
        | refine s_X9_lots_27 ?_
        | refine s_X9_lots_30 ?_
        | refine s_X9_lots_37 ?_
        | refine s_X9_lots_51 ?_
        | refine s_X9_lots_109 ?_
        | refine s_X9_lots_122 ?_
        | refine s_X9_lots_133 ?_
        | refine s_X9_lots_140 ?_
        | refine s_X9_lots_149 ?_
        simp (disch := omega) only [B_X9_lots_0, wi_aload_n, wi_iload_n, wi_iconst, wi_bipush, wi_invokestatic, B_X9_lots_8, wi_if_eq, wi_ldc_w, B_X9_lots_19, wi_goto, B_X9_lots_26, B_X9_lots_27, wi_invokevirtual, cnt_8, B_X9_lots_30, wi_istore_n, wi_if_ge, wi_ireturn, B_X9_lots_37, wi_getfield, fldv_8_22, fds_8_22, wi_iadd, wi_icmp_le, B_X9_lots_51, wi_i2l, wi_lstore, wi_istore, B_X9_lots_61, wi_iload, wi_icmp_ge, wi_ldc2_w, wi_lload, wi_lmul, wi_lrem, wi_ldiv, fldv_8_10, fds_8_10, wi_l2i, fldv_8_20, fds_8_20, B_X9_lots_109, wi_ishl, wi_ixor, wi_iand, B_X9_lots_122, B_X9_lots_133, B_X9_lots_140, wi_iinc, B_X9_lots_149, no0, no1, nz1, nz2, nz3, nz4, nz5, nz7, nz8, Classical.not_not, bz0, bz1, wi_nil, ld_0, ld_s, isIv_I, isLv_L, isRv_R, true_and, and_true, lset_0, lset_1, lset_s, avw_I, avw_L, avw_R, clr_cons, clr_nil, kst_0, kst_1, kstL_0, kstL_1, addk_I, pA_0, pA_s, pD_0, pD_s, wid_nil, wid_cons, rcv_c, putv_I, putv_L, List.length_cons, List.length_nil, List.set_cons_zero, List.set_cons_succ, not_false_eq_true, Nat.reduceMod, Nat.reduceDiv, Nat.reduceEqDiff, Nat.reduceLT, Nat.reduceLeDiff, Nat.reduceAdd, Nat.reduceSub, reduceIte, Nat.lt_irrefl, Nat.zero_ne_one, Nat.one_ne_zero, Nat.zero_add, List.nil_append, List.cons_append, Option.toList_some, Option.toList_none, forall_const, false_implies, true_implies, false_or, or_false, true_or, or_true, i_le, i_lt, i_eq, i_eq0, i_lt0, i_0le, i_0lt, i_le0, i_in1, i_cl, nI_add, pk_mul, pk_sub, i_div, i_rem, i_sh1, i_bit, i_or, i_and, i_andn, nt_le, nf_le, nt_lt, nf_lt, nt_eq, nf_eq, not_true_eq_false, and_self, and_false, false_and, eq_self, Bool.toNat_true, Bool.toNat_false, i_bool, i_bool1, Bool.false_eq_true, Bool.true_eq_false, reduceCtorEq, i_neg1, i_neg2, i_neg3, i_neg4, i_neg5, i_neg6, i_neg7, i_neg8, i_neg9, i_nega, i_negb, i_negc, i_max2, i_min2])
      refine c_need0 hm hn5 ?_
      try simp (disch := omega) only [no0, no1, nz1, nz2, nz3, nz4, nz5, nz7, nz8, Classical.not_not, bz0, bz1, wi_nil, ld_0, ld_s, isIv_I, isLv_L, isRv_R, true_and, and_true, lset_0, lset_1, lset_s, avw_I, avw_L, avw_R, clr_cons, clr_nil, kst_0, kst_1, kstL_0, kstL_1, addk_I, pA_0, pA_s, pD_0, pD_s, wid_nil, wid_cons, rcv_c, putv_I, putv_L, List.length_cons, List.length_nil, List.set_cons_zero, List.set_cons_succ, not_false_eq_true, Nat.reduceMod, Nat.reduceDiv, Nat.reduceEqDiff, Nat.reduceLT, Nat.reduceLeDiff, Nat.reduceAdd, Nat.reduceSub, reduceIte, Nat.lt_irrefl, Nat.zero_ne_one, Nat.one_ne_zero, Nat.zero_add, List.nil_append, List.cons_append, Option.toList_some, Option.toList_none, forall_const, false_implies, true_implies, false_or, or_false, true_or, or_true, i_le, i_lt, i_eq, i_eq0, i_lt0, i_0le, i_0lt, i_le0, i_in1, i_cl, nI_add, pk_mul, pk_sub, i_div, i_rem, i_sh1, i_bit, i_or, i_and, i_andn, nt_le, nf_le, nt_lt, nf_lt, nt_eq, nf_eq, not_true_eq_false, and_self, and_false, false_and, eq_self, Bool.toNat_true, Bool.toNat_false, i_bool, i_bool1, Bool.false_eq_true, Bool.true_eq_false, reduceCtorEq, i_neg1, i_neg2, i_neg3, i_neg4, i_neg5, i_neg6, i_neg7, i_neg8, i_neg9, i_nega, i_negb, i_negc, i_max2, i_min2, wi_nil]
      repeat (
        first
        | refine s_X9_lots_0 ?_
        | refine s_X9_lots_8 ?_
        | refine s_X9_lots_19 ?_
        | refine s_X9_lots_26 ?_
        | refine s_X9_lots_27 ?_
        | refine s_X9_lots_30 ?_
        | refine s_X9_lots_37 ?_
        | refine s_X9_lots_51 ?_
        | refine s_X9_lots_109 ?_
        | refine s_X9_lots_122 ?_
        | refine s_X9_lots_133 ?_
        | refine s_X9_lots_140 ?_
        | refine s_X9_lots_149 ?_
        simp (disch := omega) only [B_X9_lots_0, wi_aload_n, wi_iload_n, wi_iconst, wi_bipush, wi_invokestatic, B_X9_lots_8, wi_if_eq, wi_ldc_w, B_X9_lots_19, wi_goto, B_X9_lots_26, B_X9_lots_27, wi_invokevirtual, cnt_8, B_X9_lots_30, wi_istore_n, wi_if_ge, wi_ireturn, B_X9_lots_37, wi_getfield, fldv_8_22, fds_8_22, wi_iadd, wi_icmp_le, B_X9_lots_51, wi_i2l, wi_lstore, wi_istore, B_X9_lots_61, wi_iload, wi_icmp_ge, wi_ldc2_w, wi_lload, wi_lmul, wi_lrem, wi_ldiv, fldv_8_10, fds_8_10, wi_l2i, fldv_8_20, fds_8_20, B_X9_lots_109, wi_ishl, wi_ixor, wi_iand, B_X9_lots_122, B_X9_lots_133, B_X9_lots_140, wi_iinc, B_X9_lots_149, no0, no1, nz1, nz2, nz3, nz4, nz5, nz7, nz8, Classical.not_not, bz0, bz1, wi_nil, ld_0, ld_s, isIv_I, isLv_L, isRv_R, true_and, and_true, lset_0, lset_1, lset_s, avw_I, avw_L, avw_R, clr_cons, clr_nil, kst_0, kst_1, kstL_0, kstL_1, addk_I, pA_0, pA_s, pD_0, pD_s, wid_nil, wid_cons, rcv_c, putv_I, putv_L, List.length_cons, List.length_nil, List.set_cons_zero, List.set_cons_succ, not_false_eq_true, Nat.reduceMod, Nat.reduceDiv, Nat.reduceEqDiff, Nat.reduceLT, Nat.reduceLeDiff, Nat.reduceAdd, Nat.reduceSub, reduceIte, Nat.lt_irrefl, Nat.zero_ne_one, Nat.one_ne_zero, Nat.zero_add, List.nil_append, List.cons_append, Option.toList_some, Option.toList_none, forall_const, false_implies, true_implies, false_or, or_false, true_or, or_true, i_le, i_lt, i_eq, i_eq0, i_lt0, i_0le, i_0lt, i_le0, i_in1, i_cl, nI_add, pk_mul, pk_sub, i_div, i_rem, i_sh1, i_bit, i_or, i_and, i_andn, nt_le, nf_le, nt_lt, nf_lt, nt_eq, nf_eq, not_true_eq_false, and_self, and_false, false_and, eq_self, Bool.toNat_true, Bool.toNat_false, i_bool, i_bool1, Bool.false_eq_true, Bool.true_eq_false, reduceCtorEq, i_neg1, i_neg2, i_neg3, i_neg4, i_neg5, i_neg6, i_neg7, i_neg8, i_neg9, i_nega, i_negb, i_negc, i_max2, i_min2])
      exact pm h
    have bad := key0 key
    refine x_entry (ls2 := [aR 7 0, aI n, aI v, aU, aU, aU, aU, aU, aU]) (Nat.le_of_ble_eq_true rfl) pl_8 rfl (Nat.le_of_ble_eq_true rfl) ?_
    refine s_X8_lots_0 ?_
    simp (disch := omega) only [B_X8_lots_0, wi_iload_n, wi_iconst, wi_icmp_lt, wi_bipush, wi_icmp_gt, wi_ldc_w, no0, no1, nz1, nz2, nz3, nz4, nz5, nz7, nz8, Classical.not_not, bz0, bz1, wi_nil, ld_0, ld_s, isIv_I, isLv_L, isRv_R, true_and, and_true, lset_0, lset_1, lset_s, avw_I, avw_L, avw_R, clr_cons, clr_nil, kst_0, kst_1, kstL_0, kstL_1, addk_I, pA_0, pA_s, pD_0, pD_s, wid_nil, wid_cons, rcv_c, putv_I, putv_L, List.length_cons, List.length_nil, List.set_cons_zero, List.set_cons_succ, not_false_eq_true, Nat.reduceMod, Nat.reduceDiv, Nat.reduceEqDiff, Nat.reduceLT, Nat.reduceLeDiff, Nat.reduceAdd, Nat.reduceSub, reduceIte, Nat.lt_irrefl, Nat.zero_ne_one, Nat.one_ne_zero, Nat.zero_add, List.nil_append, List.cons_append, Option.toList_some, Option.toList_none, forall_const, false_implies, true_implies, false_or, or_false, true_or, or_true, i_le, i_lt, i_eq, i_eq0, i_lt0, i_0le, i_0lt, i_le0, i_in1, i_cl, nI_add, pk_mul, pk_sub, i_div, i_rem, i_sh1, i_bit, i_or, i_and, i_andn, nt_le, nf_le, nt_lt, nf_lt, nt_eq, nf_eq, not_true_eq_false, and_self, and_false, false_and, eq_self, Bool.toNat_true, Bool.toNat_false, i_bool, i_bool1, Bool.false_eq_true, Bool.true_eq_false, reduceCtorEq, i_neg1, i_neg2, i_neg3, i_neg4, i_neg5, i_neg6, i_neg7, i_neg8, i_neg9, i_nega, i_negb, i_negc, i_max2, i_min2]
    refine ⟨fun _ => bad, fun a => ⟨fun _ => bad, fun b => absurd ⟨?_, ?_⟩ h1⟩⟩
    · rw [Int32.lt_iff_toInt_lt] at a
      rw [Int32.le_iff_toInt_le]
      omega
    · rw [Int32.lt_iff_toInt_lt] at b
      rw [Int32.le_iff_toInt_le]
      omega
end
