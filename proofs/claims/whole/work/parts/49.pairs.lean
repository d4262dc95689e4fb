-- PART 49: what one costs: rows of pairs, habits, kinds
def pkB (rc : Nat → Nat → Int32) (r j : Nat) : Bool := decide ((1 ≤ (rc r (2 * j)).toInt ∧ (rc r (2 * j)).toInt ≤ 99) ∧ (0 ≤ (rc r (2 * j + 1)).toInt ∧ (rc r (2 * j + 1)).toInt ≤ 20))
def prB (rc : Nat → Nat → Int32) (r : Nat) : Nat → Bool
  | 0 => true
  | j + 1 => prB rc r j && pkB rc r j
theorem pr_mono {rc : Nat → Nat → Int32} {r j : Nat} (h : pkB rc r j = false) : ∀ m, prB rc r (j + 1 + m) = false := by
  intro m
  induction m with
  | zero => rw [Nat.add_zero, prB, h, Bool.and_false]
  | succ m ih => rw [← Nat.add_assoc, prB, ih, Bool.false_and]
theorem pr_at {rc : Nat → Nat → Int32} {r : Nat} : ∀ {h j : Nat}, prB rc r h = true → j < h → pkB rc r j = true := by
  intro h
  induction h with
  | zero => intro j _ hj; exact absurd hj (Nat.not_lt_zero j)
  | succ h ih =>
    intro j hp hj
    rw [prB, Bool.and_eq_true] at hp
    rcases Nat.lt_or_ge j h with a | a
    · exact ih hp.1 a
    · rw [show j = h by omega]; exact hp.2
def dyN (rc : Nat → Nat → Int32) (r j : Nat) : Nat := (rc r (2 * j)).toInt.toNat
def pyN (rc : Nat → Nat → Int32) (r j : Nat) : Nat := (rc r (2 * j + 1)).toInt.toNat
theorem pk_nat {rc : Nat → Nat → Int32} {r j : Nat} (h : pkB rc r j = true) : rc r (2 * j) = nI (dyN rc r j) ∧ 1 ≤ dyN rc r j ∧ dyN rc r j ≤ 99 ∧ rc r (2 * j + 1) = nI (pyN rc r j) ∧ pyN rc r j ≤ 20 := by
  have := of_decide_eq_true h
  unfold dyN pyN
  refine ⟨Int32.toInt_inj.mp (by rw [nI_toInt (by omega)]; omega), by omega, by omega, Int32.toInt_inj.mp (by rw [nI_toInt (by omega)]; omega), by omega⟩
def agS (rc : Nat → Nat → Int32) (r p c kd e hb : Nat) : Nat → Bool
  | 0 => true
  | j + 1 => agS rc r p c kd e hb j && decide (prc kd e hb p c (dyN rc r j) = pyN rc r j)
theorem ag_mono {rc : Nat → Nat → Int32} {r p c kd e hb j : Nat} (h : ¬ prc kd e hb p c (dyN rc r j) = pyN rc r j) : ∀ m, agS rc r p c kd e hb (j + 1 + m) = false := by
  intro m
  induction m with
  | zero => rw [Nat.add_zero, agS, decide_eq_false h, Bool.and_false]
  | succ m ih => rw [← Nat.add_assoc, agS, ih, Bool.false_and]
def bsF (c : Nat → Bool) : Nat → Nat
  | 0 => 0
  | v + 1 => if c v = true then bsF c v ||| 2 ^ v else bsF c v
theorem bs_lt {c : Nat → Bool} : ∀ v, bsF c v < 2 ^ v := by
  intro v
  induction v with
  | zero => exact Nat.zero_lt_succ 0
  | succ v ih =>
    rw [bsF]
    have h1 : 2 ^ v < 2 ^ (v + 1) := Nat.pow_lt_pow_right (by decide) (Nat.lt_succ_self v)
    split
    · exact Nat.or_lt_two_pow (by omega) h1
    · omega
theorem i_sh2 {i : Nat} (h : i < 12) : nI 1 <<< (nI i &&& 31) = nI (2 ^ i) := fin1 (p := fun i => nI 1 <<< (nI i &&& 31) = nI (2 ^ i)) (n := 12) (by decide +kernel) h
section
variable {d B : Nat} {S T : MS} {Y Y0 : Nat → Nat → Nat} {P : Option AV → MS → Prop} {rs : Nat → Nat} {rc : Nat → Nat → Int32}
theorem l_refP {r h : Nat} (ht : Tb S 15 16 6 40 rs rc) (hr : r < 6) (hz : rs r = 2 * h + 1) (hh : h ≤ 20) (unl : prB rc r h = false → P (some (aI (-nI 3))) (xRef 3 S)) (ok : prB rc r h = true → P (some (aI (nI 0))) S) : ∀ (m j : Nat), j + m = h → prB rc r j = true → wpX (d + 3) mX8_refusedPairs 58 [aR 7 0, aU, aI (nI r), aI (nI (2 * h)), aI (nI (2 * j)), aU, aU] [] S P := by
  intro m
  induction m with
  | zero =>
    intro j hj hp
    have e : j = h := by omega
    subst e
    refine s_X8_refusedPairs_58 ?_
    simp (disch := omega) only [B_X8_refusedPairs_58, wi_iload, wi_iconst, wi_iadd, wi_iload_n, wi_icmp_ge, wi_aload_n, wi_getfield, fldv_7_0, fds_7_0, cnt_7, wi_invokevirtual, cnt_3, no0, no1, nz1, nz2, nz3, nz4, nz5, nz7, nz8, Classical.not_not, bz0, bz1, wi_nil, ld_0, ld_s, isIv_I, isLv_L, isRv_R, true_and, and_true, lset_0, lset_1, lset_s, avw_I, avw_L, avw_R, clr_cons, clr_nil, kst_0, kst_1, kstL_0, kstL_1, addk_I, pA_0, pA_s, pD_0, pD_s, wid_nil, wid_cons, rcv_c, putv_I, putv_L, List.length_cons, List.length_nil, List.set_cons_zero, List.set_cons_succ, not_false_eq_true, Nat.reduceMod, Nat.reduceDiv, Nat.reduceEqDiff, Nat.reduceLT, Nat.reduceLeDiff, Nat.reduceAdd, Nat.reduceSub, reduceIte, Nat.lt_irrefl, Nat.zero_ne_one, Nat.one_ne_zero, Nat.zero_add, List.nil_append, List.cons_append, Option.toList_some, Option.toList_none, forall_const, false_implies, true_implies, false_or, or_false, true_or, or_true, i_le, i_lt, i_eq, i_eq0, i_lt0, i_0le, i_0lt, i_le0, i_in1, i_cl, nI_add, pk_mul, pk_sub, i_div, i_rem, i_sh1, i_bit, i_or, i_and, i_andn, nt_le, nf_le, nt_lt, nf_lt, nt_eq, nf_eq, not_true_eq_false, and_self, and_false, false_and, eq_self, Bool.toNat_true, Bool.toNat_false, i_bool, i_bool1, Bool.false_eq_true, Bool.true_eq_false, reduceCtorEq, i_neg1, i_neg2, i_neg3, i_neg4, i_neg5, i_neg6, i_neg7, i_neg8, i_neg9, i_nega, i_negb, i_negc, i_max2, i_min2]
    try simp (disch := omega) only [no0, no1, nz1, nz2, nz3, nz4, nz5, nz7, nz8, Classical.not_not, bz0, bz1, wi_nil, ld_0, ld_s, isIv_I, isLv_L, isRv_R, true_and, and_true, lset_0, lset_1, lset_s, avw_I, avw_L, avw_R, clr_cons, clr_nil, kst_0, kst_1, kstL_0, kstL_1, addk_I, pA_0, pA_s, pD_0, pD_s, wid_nil, wid_cons, rcv_c, putv_I, putv_L, List.length_cons, List.length_nil, List.set_cons_zero, List.set_cons_succ, not_false_eq_true, Nat.reduceMod, Nat.reduceDiv, Nat.reduceEqDiff, Nat.reduceLT, Nat.reduceLeDiff, Nat.reduceAdd, Nat.reduceSub, reduceIte, Nat.lt_irrefl, Nat.zero_ne_one, Nat.one_ne_zero, Nat.zero_add, List.nil_append, List.cons_append, Option.toList_some, Option.toList_none, forall_const, false_implies, true_implies, false_or, or_false, true_or, or_true, i_le, i_lt, i_eq, i_eq0, i_lt0, i_0le, i_0lt, i_le0, i_in1, i_cl, nI_add, pk_mul, pk_sub, i_div, i_rem, i_sh1, i_bit, i_or, i_and, i_andn, nt_le, nf_le, nt_lt, nf_lt, nt_eq, nf_eq, not_true_eq_false, and_self, and_false, false_and, eq_self, Bool.toNat_true, Bool.toNat_false, i_bool, i_bool1, Bool.false_eq_true, Bool.true_eq_false, reduceCtorEq, i_neg1, i_neg2, i_neg3, i_neg4, i_neg5, i_neg6, i_neg7, i_neg8, i_neg9, i_nega, i_negb, i_negc, i_max2, i_min2, wi_nil]
    repeat (
      first
      | refine s_X8_refusedPairs_0 ?_
      | refine s_X8_refusedPairs_5 ?_
      | refine s_X8_refusedPairs_12 ?_
      | refine s_X8_refusedPairs_15 ?_
      | refine s_X8_refusedPairs_17 ?_
      | refine s_X8_refusedPairs_25 ?_
      | refine s_X8_refusedPairs_33 ?_
      | refine s_X8_refusedPairs_34 ?_
      | refine s_X8_refusedPairs_42 ?_
      | refine s_X8_refusedPairs_54 ?_
      | refine s_X8_refusedPairs_55 ?_
      | refine s_X8_refusedPairs_76 ?_
      | refine s_X8_refusedPairs_90 ?_
      | refine s_X8_refusedPairs_117 ?_
      | refine s_X8_refusedPairs_122 ?_
      | refine s_X8_refusedPairs_123 ?_
      | refine s_X8_refusedPairs_129 ?_
      simp (disch := omega) only [B_X8_refusedPairs_0, wi_aload_n, wi_iload_n, wi_invokevirtual, cnt_7, B_X8_refusedPairs_5, wi_if_eq, wi_invokestatic, B_X8_refusedPairs_12, wi_if_ne, B_X8_refusedPairs_15, wi_iconst, wi_ireturn, B_X8_refusedPairs_17, wi_getfield, fldv_7_0, fds_7_0, cnt_3, B_X8_refusedPairs_25, B_X8_refusedPairs_33, B_X8_refusedPairs_34, B_X8_refusedPairs_42, wi_istore_n, wi_irem, B_X8_refusedPairs_54, B_X8_refusedPairs_55, wi_istore, B_X8_refusedPairs_58, wi_iload, wi_iadd, wi_icmp_ge, B_X8_refusedPairs_76, B_X8_refusedPairs_90, wi_icmp_lt, wi_bipush, wi_icmp_gt, wi_if_lt, wi_icmp_le, B_X8_refusedPairs_117, B_X8_refusedPairs_122, B_X8_refusedPairs_123, wi_iinc, wi_goto, B_X8_refusedPairs_129, no0, no1, nz1, nz2, nz3, nz4, nz5, nz7, nz8, Classical.not_not, bz0, bz1, wi_nil, ld_0, ld_s, isIv_I, isLv_L, isRv_R, true_and, and_true, lset_0, lset_1, lset_s, avw_I, avw_L, avw_R, clr_cons, clr_nil, kst_0, kst_1, kstL_0, kstL_1, addk_I, pA_0, pA_s, pD_0, pD_s, wid_nil, wid_cons, rcv_c, putv_I, putv_L, List.length_cons, List.length_nil, List.set_cons_zero, List.set_cons_succ, not_false_eq_true, Nat.reduceMod, Nat.reduceDiv, Nat.reduceEqDiff, Nat.reduceLT, Nat.reduceLeDiff, Nat.reduceAdd, Nat.reduceSub, reduceIte, Nat.lt_irrefl, Nat.zero_ne_one, Nat.one_ne_zero, Nat.zero_add, List.nil_append, List.cons_append, Option.toList_some, Option.toList_none, forall_const, false_implies, true_implies, false_or, or_false, true_or, or_true, i_le, i_lt, i_eq, i_eq0, i_lt0, i_0le, i_0lt, i_le0, i_in1, i_cl, nI_add, pk_mul, pk_sub, i_div, i_rem, i_sh1, i_bit, i_or, i_and, i_andn, nt_le, nf_le, nt_lt, nf_lt, nt_eq, nf_eq, not_true_eq_false, and_self, and_false, false_and, eq_self, Bool.toNat_true, Bool.toNat_false, i_bool, i_bool1, Bool.false_eq_true, Bool.true_eq_false, reduceCtorEq, i_neg1, i_neg2, i_neg3, i_neg4, i_neg5, i_neg6, i_neg7, i_neg8, i_neg9, i_nega, i_negb, i_negc, i_max2, i_min2])
    exact ok hp
  | succ m ih =>
    intro j hj hp
    have hnx := ih (j + 1) (by omega)
    rw [show 2 * (j + 1) = 2 * j + 2 by omega] at hnx
    have rng1 := fb_rng (rc r (2 * j))
    have rng2 := fb_rng (rc r (2 * j + 1))
    have e1 : (nI 1).toInt = 1 := nI_toInt (by decide)
    have e99 : (nI 99).toInt = 99 := nI_toInt (by decide)
    have e20 : (nI 20).toInt = 20 := nI_toInt (by decide)
    have no : pkB rc r j = false → wpX (d + 3) mX8_refusedPairs 117 [aR 7 0, aU, aU, aU, aU, aU, aU] [] S P := by
      intro hk
      try simp (disch := omega) only [no0, no1, nz1, nz2, nz3, nz4, nz5, nz7, nz8, Classical.not_not, bz0, bz1, wi_nil, ld_0, ld_s, isIv_I, isLv_L, isRv_R, true_and, and_true, lset_0, lset_1, lset_s, avw_I, avw_L, avw_R, clr_cons, clr_nil, kst_0, kst_1, kstL_0, kstL_1, addk_I, pA_0, pA_s, pD_0, pD_s, wid_nil, wid_cons, rcv_c, putv_I, putv_L, List.length_cons, List.length_nil, List.set_cons_zero, List.set_cons_succ, not_false_eq_true, Nat.reduceMod, Nat.reduceDiv, Nat.reduceEqDiff, Nat.reduceLT, Nat.reduceLeDiff, Nat.reduceAdd, Nat.reduceSub, reduceIte, Nat.lt_irrefl, Nat.zero_ne_one, Nat.one_ne_zero, Nat.zero_add, List.nil_append, List.cons_append, Option.toList_some, Option.toList_none, forall_const, false_implies, true_implies, false_or, or_false, true_or, or_true, i_le, i_lt, i_eq, i_eq0, i_lt0, i_0le, i_0lt, i_le0, i_in1, i_cl, nI_add, pk_mul, pk_sub, i_div, i_rem, i_sh1, i_bit, i_or, i_and, i_andn, nt_le, nf_le, nt_lt, nf_lt, nt_eq, nf_eq, not_true_eq_false, and_self, and_false, false_and, eq_self, Bool.toNat_true, Bool.toNat_false, i_bool, i_bool1, Bool.false_eq_true, Bool.true_eq_false, reduceCtorEq, i_neg1, i_neg2, i_neg3, i_neg4, i_neg5, i_neg6, i_neg7, i_neg8, i_neg9, i_nega, i_negb, i_negc, i_max2, i_min2, wi_nil]
      repeat (
        first
        | refine s_X8_refusedPairs_0 ?_
        | refine s_X8_refusedPairs_5 ?_
        | refine s_X8_refusedPairs_12 ?_
        | refine s_X8_refusedPairs_15 ?_
        | refine s_X8_refusedPairs_17 ?_
        | refine s_X8_refusedPairs_25 ?_
        | refine s_X8_refusedPairs_33 ?_
        | refine s_X8_refusedPairs_34 ?_
        | refine s_X8_refusedPairs_42 ?_
        | refine s_X8_refusedPairs_54 ?_
        | refine s_X8_refusedPairs_55 ?_
        | refine s_X8_refusedPairs_76 ?_
        | refine s_X8_refusedPairs_90 ?_
        | refine s_X8_refusedPairs_117 ?_
        | refine s_X8_refusedPairs_122 ?_
        | refine s_X8_refusedPairs_123 ?_
        | refine s_X8_refusedPairs_129 ?_
        simp (disch := omega) only [B_X8_refusedPairs_0, wi_aload_n, wi_iload_n, wi_invokevirtual, cnt_7, B_X8_refusedPairs_5, wi_if_eq, wi_invokestatic, B_X8_refusedPairs_12, wi_if_ne, B_X8_refusedPairs_15, wi_iconst, wi_ireturn, B_X8_refusedPairs_17, wi_getfield, fldv_7_0, fds_7_0, cnt_3, B_X8_refusedPairs_25, B_X8_refusedPairs_33, B_X8_refusedPairs_34, B_X8_refusedPairs_42, wi_istore_n, wi_irem, B_X8_refusedPairs_54, B_X8_refusedPairs_55, wi_istore, B_X8_refusedPairs_58, wi_iload, wi_iadd, wi_icmp_ge, B_X8_refusedPairs_76, B_X8_refusedPairs_90, wi_icmp_lt, wi_bipush, wi_icmp_gt, wi_if_lt, wi_icmp_le, B_X8_refusedPairs_117, B_X8_refusedPairs_122, B_X8_refusedPairs_123, wi_iinc, wi_goto, B_X8_refusedPairs_129, no0, no1, nz1, nz2, nz3, nz4, nz5, nz7, nz8, Classical.not_not, bz0, bz1, wi_nil, ld_0, ld_s, isIv_I, isLv_L, isRv_R, true_and, and_true, lset_0, lset_1, lset_s, avw_I, avw_L, avw_R, clr_cons, clr_nil, kst_0, kst_1, kstL_0, kstL_1, addk_I, pA_0, pA_s, pD_0, pD_s, wid_nil, wid_cons, rcv_c, putv_I, putv_L, List.length_cons, List.length_nil, List.set_cons_zero, List.set_cons_succ, not_false_eq_true, Nat.reduceMod, Nat.reduceDiv, Nat.reduceEqDiff, Nat.reduceLT, Nat.reduceLeDiff, Nat.reduceAdd, Nat.reduceSub, reduceIte, Nat.lt_irrefl, Nat.zero_ne_one, Nat.one_ne_zero, Nat.zero_add, List.nil_append, List.cons_append, Option.toList_some, Option.toList_none, forall_const, false_implies, true_implies, false_or, or_false, true_or, or_true, i_le, i_lt, i_eq, i_eq0, i_lt0, i_0le, i_0lt, i_le0, i_in1, i_cl, nI_add, pk_mul, pk_sub, i_div, i_rem, i_sh1, i_bit, i_or, i_and, i_andn, nt_le, nf_le, nt_lt, nf_lt, nt_eq, nf_eq, not_true_eq_false, and_self, and_false, false_and, eq_self, Bool.toNat_true, Bool.toNat_false, i_bool, i_bool1, Bool.false_eq_true, Bool.true_eq_false, reduceCtorEq, i_neg1, i_neg2, i_neg3, i_neg4, i_neg5, i_neg6, i_neg7, i_neg8, i_neg9, i_nega, i_negb, i_negc, i_max2, i_min2])
      refine c_refuse (by decide) ?_
      try simp (disch := omega) only [no0, no1, nz1, nz2, nz3, nz4, nz5, nz7, nz8, Classical.not_not, bz0, bz1, wi_nil, ld_0, ld_s, isIv_I, isLv_L, isRv_R, true_and, and_true, lset_0, lset_1, lset_s, avw_I, avw_L, avw_R, clr_cons, clr_nil, kst_0, kst_1, kstL_0, kstL_1, addk_I, pA_0, pA_s, pD_0, pD_s, wid_nil, wid_cons, rcv_c, putv_I, putv_L, List.length_cons, List.length_nil, List.set_cons_zero, List.set_cons_succ, not_false_eq_true, Nat.reduceMod, Nat.reduceDiv, Nat.reduceEqDiff, Nat.reduceLT, Nat.reduceLeDiff, Nat.reduceAdd, Nat.reduceSub, reduceIte, Nat.lt_irrefl, Nat.zero_ne_one, Nat.one_ne_zero, Nat.zero_add, List.nil_append, List.cons_append, Option.toList_some, Option.toList_none, forall_const, false_implies, true_implies, false_or, or_false, true_or, or_true, i_le, i_lt, i_eq, i_eq0, i_lt0, i_0le, i_0lt, i_le0, i_in1, i_cl, nI_add, pk_mul, pk_sub, i_div, i_rem, i_sh1, i_bit, i_or, i_and, i_andn, nt_le, nf_le, nt_lt, nf_lt, nt_eq, nf_eq, not_true_eq_false, and_self, and_false, false_and, eq_self, Bool.toNat_true, Bool.toNat_false, i_bool, i_bool1, Bool.false_eq_true, Bool.true_eq_false, reduceCtorEq, i_neg1, i_neg2, i_neg3, i_neg4, i_neg5, i_neg6, i_neg7, i_neg8, i_neg9, i_nega, i_negb, i_negc, i_max2, i_min2, wi_nil]
      repeat (
        first
        | refine s_X8_refusedPairs_0 ?_
        | refine s_X8_refusedPairs_5 ?_
        | refine s_X8_refusedPairs_12 ?_
        | refine s_X8_refusedPairs_15 ?_
        | refine s_X8_refusedPairs_17 ?_
        | refine s_X8_refusedPairs_25 ?_
        | refine s_X8_refusedPairs_33 ?_
        | refine s_X8_refusedPairs_34 ?_
        | refine s_X8_refusedPairs_42 ?_
        | refine s_X8_refusedPairs_54 ?_
        | refine s_X8_refusedPairs_55 ?_
        | refine s_X8_refusedPairs_76 ?_
        | refine s_X8_refusedPairs_90 ?_
        | refine s_X8_refusedPairs_117 ?_
        | refine s_X8_refusedPairs_122 ?_
        | refine s_X8_refusedPairs_123 ?_
        | refine s_X8_refusedPairs_129 ?_
        simp (disch := omega) only [B_X8_refusedPairs_0, wi_aload_n, wi_iload_n, wi_invokevirtual, cnt_7, B_X8_refusedPairs_5, wi_if_eq, wi_invokestatic, B_X8_refusedPairs_12, wi_if_ne, B_X8_refusedPairs_15, wi_iconst, wi_ireturn, B_X8_refusedPairs_17, wi_getfield, fldv_7_0, fds_7_0, cnt_3, B_X8_refusedPairs_25, B_X8_refusedPairs_33, B_X8_refusedPairs_34, B_X8_refusedPairs_42, wi_istore_n, wi_irem, B_X8_refusedPairs_54, B_X8_refusedPairs_55, wi_istore, B_X8_refusedPairs_58, wi_iload, wi_iadd, wi_icmp_ge, B_X8_refusedPairs_76, B_X8_refusedPairs_90, wi_icmp_lt, wi_bipush, wi_icmp_gt, wi_if_lt, wi_icmp_le, B_X8_refusedPairs_117, B_X8_refusedPairs_122, B_X8_refusedPairs_123, wi_iinc, wi_goto, B_X8_refusedPairs_129, no0, no1, nz1, nz2, nz3, nz4, nz5, nz7, nz8, Classical.not_not, bz0, bz1, wi_nil, ld_0, ld_s, isIv_I, isLv_L, isRv_R, true_and, and_true, lset_0, lset_1, lset_s, avw_I, avw_L, avw_R, clr_cons, clr_nil, kst_0, kst_1, kstL_0, kstL_1, addk_I, pA_0, pA_s, pD_0, pD_s, wid_nil, wid_cons, rcv_c, putv_I, putv_L, List.length_cons, List.length_nil, List.set_cons_zero, List.set_cons_succ, not_false_eq_true, Nat.reduceMod, Nat.reduceDiv, Nat.reduceEqDiff, Nat.reduceLT, Nat.reduceLeDiff, Nat.reduceAdd, Nat.reduceSub, reduceIte, Nat.lt_irrefl, Nat.zero_ne_one, Nat.one_ne_zero, Nat.zero_add, List.nil_append, List.cons_append, Option.toList_some, Option.toList_none, forall_const, false_implies, true_implies, false_or, or_false, true_or, or_true, i_le, i_lt, i_eq, i_eq0, i_lt0, i_0le, i_0lt, i_le0, i_in1, i_cl, nI_add, pk_mul, pk_sub, i_div, i_rem, i_sh1, i_bit, i_or, i_and, i_andn, nt_le, nf_le, nt_lt, nf_lt, nt_eq, nf_eq, not_true_eq_false, and_self, and_false, false_and, eq_self, Bool.toNat_true, Bool.toNat_false, i_bool, i_bool1, Bool.false_eq_true, Bool.true_eq_false, reduceCtorEq, i_neg1, i_neg2, i_neg3, i_neg4, i_neg5, i_neg6, i_neg7, i_neg8, i_neg9, i_nega, i_negb, i_negc, i_max2, i_min2])
      refine unl ?_
      have := pr_mono hk (h - (j + 1))
      rw [show j + 1 + (h - (j + 1)) = h by omega] at this
      exact this
    have yes : pkB rc r j = true → wpX (d + 3) mX8_refusedPairs 123 [aR 7 0, aU, aI (nI r), aI (nI (2 * h)), aI (nI (2 * j)), aU, aU] [] S P := by
      intro hk
      try simp (disch := omega) only [no0, no1, nz1, nz2, nz3, nz4, nz5, nz7, nz8, Classical.not_not, bz0, bz1, wi_nil, ld_0, ld_s, isIv_I, isLv_L, isRv_R, true_and, and_true, lset_0, lset_1, lset_s, avw_I, avw_L, avw_R, clr_cons, clr_nil, kst_0, kst_1, kstL_0, kstL_1, addk_I, pA_0, pA_s, pD_0, pD_s, wid_nil, wid_cons, rcv_c, putv_I, putv_L, List.length_cons, List.length_nil, List.set_cons_zero, List.set_cons_succ, not_false_eq_true, Nat.reduceMod, Nat.reduceDiv, Nat.reduceEqDiff, Nat.reduceLT, Nat.reduceLeDiff, Nat.reduceAdd, Nat.reduceSub, reduceIte, Nat.lt_irrefl, Nat.zero_ne_one, Nat.one_ne_zero, Nat.zero_add, List.nil_append, List.cons_append, Option.toList_some, Option.toList_none, forall_const, false_implies, true_implies, false_or, or_false, true_or, or_true, i_le, i_lt, i_eq, i_eq0, i_lt0, i_0le, i_0lt, i_le0, i_in1, i_cl, nI_add, pk_mul, pk_sub, i_div, i_rem, i_sh1, i_bit, i_or, i_and, i_andn, nt_le, nf_le, nt_lt, nf_lt, nt_eq, nf_eq, not_true_eq_false, and_self, and_false, false_and, eq_self, Bool.toNat_true, Bool.toNat_false, i_bool, i_bool1, Bool.false_eq_true, Bool.true_eq_false, reduceCtorEq, i_neg1, i_neg2, i_neg3, i_neg4, i_neg5, i_neg6, i_neg7, i_neg8, i_neg9, i_nega, i_negb, i_negc, i_max2, i_min2, wi_nil]
      repeat (
        first
        | refine s_X8_refusedPairs_0 ?_
        | refine s_X8_refusedPairs_5 ?_
        | refine s_X8_refusedPairs_12 ?_
        | refine s_X8_refusedPairs_15 ?_
        | refine s_X8_refusedPairs_17 ?_
        | refine s_X8_refusedPairs_25 ?_
        | refine s_X8_refusedPairs_33 ?_
        | refine s_X8_refusedPairs_34 ?_
        | refine s_X8_refusedPairs_42 ?_
        | refine s_X8_refusedPairs_54 ?_
        | refine s_X8_refusedPairs_55 ?_
        | refine s_X8_refusedPairs_76 ?_
        | refine s_X8_refusedPairs_90 ?_
        | refine s_X8_refusedPairs_117 ?_
        | refine s_X8_refusedPairs_122 ?_
        | refine s_X8_refusedPairs_123 ?_
        | refine s_X8_refusedPairs_129 ?_
        simp (disch := omega) only [B_X8_refusedPairs_0, wi_aload_n, wi_iload_n, wi_invokevirtual, cnt_7, B_X8_refusedPairs_5, wi_if_eq, wi_invokestatic, B_X8_refusedPairs_12, wi_if_ne, B_X8_refusedPairs_15, wi_iconst, wi_ireturn, B_X8_refusedPairs_17, wi_getfield, fldv_7_0, fds_7_0, cnt_3, B_X8_refusedPairs_25, B_X8_refusedPairs_33, B_X8_refusedPairs_34, B_X8_refusedPairs_42, wi_istore_n, wi_irem, B_X8_refusedPairs_54, B_X8_refusedPairs_55, wi_istore, B_X8_refusedPairs_58, wi_iload, wi_iadd, wi_icmp_ge, B_X8_refusedPairs_76, B_X8_refusedPairs_90, wi_icmp_lt, wi_bipush, wi_icmp_gt, wi_if_lt, wi_icmp_le, B_X8_refusedPairs_117, B_X8_refusedPairs_122, B_X8_refusedPairs_123, wi_iinc, wi_goto, B_X8_refusedPairs_129, no0, no1, nz1, nz2, nz3, nz4, nz5, nz7, nz8, Classical.not_not, bz0, bz1, wi_nil, ld_0, ld_s, isIv_I, isLv_L, isRv_R, true_and, and_true, lset_0, lset_1, lset_s, avw_I, avw_L, avw_R, clr_cons, clr_nil, kst_0, kst_1, kstL_0, kstL_1, addk_I, pA_0, pA_s, pD_0, pD_s, wid_nil, wid_cons, rcv_c, putv_I, putv_L, List.length_cons, List.length_nil, List.set_cons_zero, List.set_cons_succ, not_false_eq_true, Nat.reduceMod, Nat.reduceDiv, Nat.reduceEqDiff, Nat.reduceLT, Nat.reduceLeDiff, Nat.reduceAdd, Nat.reduceSub, reduceIte, Nat.lt_irrefl, Nat.zero_ne_one, Nat.one_ne_zero, Nat.zero_add, List.nil_append, List.cons_append, Option.toList_some, Option.toList_none, forall_const, false_implies, true_implies, false_or, or_false, true_or, or_true, i_le, i_lt, i_eq, i_eq0, i_lt0, i_0le, i_0lt, i_le0, i_in1, i_cl, nI_add, pk_mul, pk_sub, i_div, i_rem, i_sh1, i_bit, i_or, i_and, i_andn, nt_le, nf_le, nt_lt, nf_lt, nt_eq, nf_eq, not_true_eq_false, and_self, and_false, false_and, eq_self, Bool.toNat_true, Bool.toNat_false, i_bool, i_bool1, Bool.false_eq_true, Bool.true_eq_false, reduceCtorEq, i_neg1, i_neg2, i_neg3, i_neg4, i_neg5, i_neg6, i_neg7, i_neg8, i_neg9, i_nega, i_negb, i_negc, i_max2, i_min2])
      refine hnx ?_
      rw [prB, hp, hk]
      rfl
    refine s_X8_refusedPairs_58 ?_
    simp (disch := omega) only [B_X8_refusedPairs_58, wi_iload, wi_iconst, wi_iadd, wi_iload_n, wi_icmp_ge, wi_aload_n, wi_getfield, fldv_7_0, fds_7_0, cnt_7, wi_invokevirtual, cnt_3, no0, no1, nz1, nz2, nz3, nz4, nz5, nz7, nz8, Classical.not_not, bz0, bz1, wi_nil, ld_0, ld_s, isIv_I, isLv_L, isRv_R, true_and, and_true, lset_0, lset_1, lset_s, avw_I, avw_L, avw_R, clr_cons, clr_nil, kst_0, kst_1, kstL_0, kstL_1, addk_I, pA_0, pA_s, pD_0, pD_s, wid_nil, wid_cons, rcv_c, putv_I, putv_L, List.length_cons, List.length_nil, List.set_cons_zero, List.set_cons_succ, not_false_eq_true, Nat.reduceMod, Nat.reduceDiv, Nat.reduceEqDiff, Nat.reduceLT, Nat.reduceLeDiff, Nat.reduceAdd, Nat.reduceSub, reduceIte, Nat.lt_irrefl, Nat.zero_ne_one, Nat.one_ne_zero, Nat.zero_add, List.nil_append, List.cons_append, Option.toList_some, Option.toList_none, forall_const, false_implies, true_implies, false_or, or_false, true_or, or_true, i_le, i_lt, i_eq, i_eq0, i_lt0, i_0le, i_0lt, i_le0, i_in1, i_cl, nI_add, pk_mul, pk_sub, i_div, i_rem, i_sh1, i_bit, i_or, i_and, i_andn, nt_le, nf_le, nt_lt, nf_lt, nt_eq, nf_eq, not_true_eq_false, and_self, and_false, false_and, eq_self, Bool.toNat_true, Bool.toNat_false, i_bool, i_bool1, Bool.false_eq_true, Bool.true_eq_false, reduceCtorEq, i_neg1, i_neg2, i_neg3, i_neg4, i_neg5, i_neg6, i_neg7, i_neg8, i_neg9, i_nega, i_negb, i_negc, i_max2, i_min2]
    refine c_Rread ht hr (by omega) ?_
    try simp (disch := omega) only [no0, no1, nz1, nz2, nz3, nz4, nz5, nz7, nz8, Classical.not_not, bz0, bz1, wi_nil, ld_0, ld_s, isIv_I, isLv_L, isRv_R, true_and, and_true, lset_0, lset_1, lset_s, avw_I, avw_L, avw_R, clr_cons, clr_nil, kst_0, kst_1, kstL_0, kstL_1, addk_I, pA_0, pA_s, pD_0, pD_s, wid_nil, wid_cons, rcv_c, putv_I, putv_L, List.length_cons, List.length_nil, List.set_cons_zero, List.set_cons_succ, not_false_eq_true, Nat.reduceMod, Nat.reduceDiv, Nat.reduceEqDiff, Nat.reduceLT, Nat.reduceLeDiff, Nat.reduceAdd, Nat.reduceSub, reduceIte, Nat.lt_irrefl, Nat.zero_ne_one, Nat.one_ne_zero, Nat.zero_add, List.nil_append, List.cons_append, Option.toList_some, Option.toList_none, forall_const, false_implies, true_implies, false_or, or_false, true_or, or_true, i_le, i_lt, i_eq, i_eq0, i_lt0, i_0le, i_0lt, i_le0, i_in1, i_cl, nI_add, pk_mul, pk_sub, i_div, i_rem, i_sh1, i_bit, i_or, i_and, i_andn, nt_le, nf_le, nt_lt, nf_lt, nt_eq, nf_eq, not_true_eq_false, and_self, and_false, false_and, eq_self, Bool.toNat_true, Bool.toNat_false, i_bool, i_bool1, Bool.false_eq_true, Bool.true_eq_false, reduceCtorEq, i_neg1, i_neg2, i_neg3, i_neg4, i_neg5, i_neg6, i_neg7, i_neg8, i_neg9, i_nega, i_negb, i_negc, i_max2, i_min2, wi_nil]
    repeat (
      first
      | refine s_X8_refusedPairs_0 ?_
      | refine s_X8_refusedPairs_5 ?_
      | refine s_X8_refusedPairs_12 ?_
      | refine s_X8_refusedPairs_15 ?_
      | refine s_X8_refusedPairs_17 ?_
      | refine s_X8_refusedPairs_25 ?_
      | refine s_X8_refusedPairs_33 ?_
      | refine s_X8_refusedPairs_34 ?_
      | refine s_X8_refusedPairs_42 ?_
      | refine s_X8_refusedPairs_54 ?_
      | refine s_X8_refusedPairs_55 ?_
      | refine s_X8_refusedPairs_76 ?_
      | refine s_X8_refusedPairs_90 ?_
      | refine s_X8_refusedPairs_117 ?_
      | refine s_X8_refusedPairs_122 ?_
      | refine s_X8_refusedPairs_123 ?_
      | refine s_X8_refusedPairs_129 ?_
      simp (disch := omega) only [B_X8_refusedPairs_0, wi_aload_n, wi_iload_n, wi_invokevirtual, cnt_7, B_X8_refusedPairs_5, wi_if_eq, wi_invokestatic, B_X8_refusedPairs_12, wi_if_ne, B_X8_refusedPairs_15, wi_iconst, wi_ireturn, B_X8_refusedPairs_17, wi_getfield, fldv_7_0, fds_7_0, cnt_3, B_X8_refusedPairs_25, B_X8_refusedPairs_33, B_X8_refusedPairs_34, B_X8_refusedPairs_42, wi_istore_n, wi_irem, B_X8_refusedPairs_54, B_X8_refusedPairs_55, wi_istore, B_X8_refusedPairs_58, wi_iload, wi_iadd, wi_icmp_ge, B_X8_refusedPairs_76, B_X8_refusedPairs_90, wi_icmp_lt, wi_bipush, wi_icmp_gt, wi_if_lt, wi_icmp_le, B_X8_refusedPairs_117, B_X8_refusedPairs_122, B_X8_refusedPairs_123, wi_iinc, wi_goto, B_X8_refusedPairs_129, no0, no1, nz1, nz2, nz3, nz4, nz5, nz7, nz8, Classical.not_not, bz0, bz1, wi_nil, ld_0, ld_s, isIv_I, isLv_L, isRv_R, true_and, and_true, lset_0, lset_1, lset_s, avw_I, avw_L, avw_R, clr_cons, clr_nil, kst_0, kst_1, kstL_0, kstL_1, addk_I, pA_0, pA_s, pD_0, pD_s, wid_nil, wid_cons, rcv_c, putv_I, putv_L, List.length_cons, List.length_nil, List.set_cons_zero, List.set_cons_succ, not_false_eq_true, Nat.reduceMod, Nat.reduceDiv, Nat.reduceEqDiff, Nat.reduceLT, Nat.reduceLeDiff, Nat.reduceAdd, Nat.reduceSub, reduceIte, Nat.lt_irrefl, Nat.zero_ne_one, Nat.one_ne_zero, Nat.zero_add, List.nil_append, List.cons_append, Option.toList_some, Option.toList_none, forall_const, false_implies, true_implies, false_or, or_false, true_or, or_true, i_le, i_lt, i_eq, i_eq0, i_lt0, i_0le, i_0lt, i_le0, i_in1, i_cl, nI_add, pk_mul, pk_sub, i_div, i_rem, i_sh1, i_bit, i_or, i_and, i_andn, nt_le, nf_le, nt_lt, nf_lt, nt_eq, nf_eq, not_true_eq_false, and_self, and_false, false_and, eq_self, Bool.toNat_true, Bool.toNat_false, i_bool, i_bool1, Bool.false_eq_true, Bool.true_eq_false, reduceCtorEq, i_neg1, i_neg2, i_neg3, i_neg4, i_neg5, i_neg6, i_neg7, i_neg8, i_neg9, i_nega, i_negb, i_negc, i_max2, i_min2])
    refine c_Rread ht hr (by omega) ?_
    refine s_X8_refusedPairs_90 ?_
    simp (disch := omega) only [B_X8_refusedPairs_90, wi_istore, wi_iload, wi_iconst, wi_icmp_lt, wi_bipush, wi_icmp_gt, wi_if_lt, wi_icmp_le, no0, no1, nz1, nz2, nz3, nz4, nz5, nz7, nz8, Classical.not_not, bz0, bz1, wi_nil, ld_0, ld_s, isIv_I, isLv_L, isRv_R, true_and, and_true, lset_0, lset_1, lset_s, avw_I, avw_L, avw_R, clr_cons, clr_nil, kst_0, kst_1, kstL_0, kstL_1, addk_I, pA_0, pA_s, pD_0, pD_s, wid_nil, wid_cons, rcv_c, putv_I, putv_L, List.length_cons, List.length_nil, List.set_cons_zero, List.set_cons_succ, not_false_eq_true, Nat.reduceMod, Nat.reduceDiv, Nat.reduceEqDiff, Nat.reduceLT, Nat.reduceLeDiff, Nat.reduceAdd, Nat.reduceSub, reduceIte, Nat.lt_irrefl, Nat.zero_ne_one, Nat.one_ne_zero, Nat.zero_add, List.nil_append, List.cons_append, Option.toList_some, Option.toList_none, forall_const, false_implies, true_implies, false_or, or_false, true_or, or_true, i_le, i_lt, i_eq, i_eq0, i_lt0, i_0le, i_0lt, i_le0, i_in1, i_cl, nI_add, pk_mul, pk_sub, i_div, i_rem, i_sh1, i_bit, i_or, i_and, i_andn, nt_le, nf_le, nt_lt, nf_lt, nt_eq, nf_eq, not_true_eq_false, and_self, and_false, false_and, eq_self, Bool.toNat_true, Bool.toNat_false, i_bool, i_bool1, Bool.false_eq_true, Bool.true_eq_false, reduceCtorEq, i_neg1, i_neg2, i_neg3, i_neg4, i_neg5, i_neg6, i_neg7, i_neg8, i_neg9, i_nega, i_negb, i_negc, i_max2, i_min2]
    refine ⟨fun a => no (decide_eq_false ?_), fun a => ⟨fun b => no (decide_eq_false ?_), fun b => ⟨fun c => no (decide_eq_false ?_), fun c => ⟨fun f => yes (decide_eq_true ?_), fun f => no (decide_eq_false ?_)⟩⟩⟩⟩
    · rw [Int32.lt_iff_toInt_lt, e1] at a; omega
    · rw [Int32.lt_iff_toInt_lt, e99] at b; omega
    · rw [Int32.lt_iff_toInt_lt, Int32.toInt_zero] at c; omega
    · rw [Int32.lt_iff_toInt_lt, e1] at a
      rw [Int32.lt_iff_toInt_lt, e99] at b
      rw [Int32.lt_iff_toInt_lt, Int32.toInt_zero] at c
      rw [Int32.le_iff_toInt_le, e20] at f
      omega
    · rw [Int32.le_iff_toInt_le, e20] at f; omega
theorem c_refPairs {i r : Int32} (hy : YrX S 1 Y) (hn5 : Y 6 0 ≤ 5) (ht : Tb S 15 16 6 40 rs rc) (bad : (inB i (Y 6 0) = false ∨ inB r 6 = false) → P (some (aI (-nI 1))) S) (miss : ∀ a b, a < Y 6 0 → i = nI a → b < 6 → r = nI b → rs b = 0 → P (some (aI (-nI 3))) (xRef 1 S)) (odd : ∀ a b h, a < Y 6 0 → i = nI a → b < 6 → r = nI b → h ≤ 20 → rs b = 2 * h + 2 → P (some (aI (-nI 3))) (xRef 5 S)) (unl : ∀ a b h, a < Y 6 0 → i = nI a → b < 6 → r = nI b → h ≤ 20 → rs b = 2 * h + 1 → prB rc b h = false → P (some (aI (-nI 3))) (xRef 3 S)) (ok : ∀ a b h, a < Y 6 0 → i = nI a → b < 6 → r = nI b → h ≤ 20 → rs b = 2 * h + 1 → prB rc b h = true → P (some (aI (nI 0))) S) : wpM (d + 4) mX8_refusedPairs [aR 7 0, aI i, aI r] S P := by
  cases hi : inB i (Y 6 0)
  · refine x_entry (ls2 := [aR 7 0, aI i, aI r, aU, aU, aU, aU]) (Nat.le_of_ble_eq_true rfl) pl_8 rfl (Nat.le_of_ble_eq_true rfl) ?_
    try simp (disch := omega) only [no0, no1, nz1, nz2, nz3, nz4, nz5, nz7, nz8, Classical.not_not, bz0, bz1, wi_nil, ld_0, ld_s, isIv_I, isLv_L, isRv_R, true_and, and_true, lset_0, lset_1, lset_s, avw_I, avw_L, avw_R, clr_cons, clr_nil, kst_0, kst_1, kstL_0, kstL_1, addk_I, pA_0, pA_s, pD_0, pD_s, wid_nil, wid_cons, rcv_c, putv_I, putv_L, List.length_cons, List.length_nil, List.set_cons_zero, List.set_cons_succ, not_false_eq_true, Nat.reduceMod, Nat.reduceDiv, Nat.reduceEqDiff, Nat.reduceLT, Nat.reduceLeDiff, Nat.reduceAdd, Nat.reduceSub, reduceIte, Nat.lt_irrefl, Nat.zero_ne_one, Nat.one_ne_zero, Nat.zero_add, List.nil_append, List.cons_append, Option.toList_some, Option.toList_none, forall_const, false_implies, true_implies, false_or, or_false, true_or, or_true, i_le, i_lt, i_eq, i_eq0, i_lt0, i_0le, i_0lt, i_le0, i_in1, i_cl, nI_add, pk_mul, pk_sub, i_div, i_rem, i_sh1, i_bit, i_or, i_and, i_andn, nt_le, nf_le, nt_lt, nf_lt, nt_eq, nf_eq, not_true_eq_false, and_self, and_false, false_and, eq_self, Bool.toNat_true, Bool.toNat_false, i_bool, i_bool1, Bool.false_eq_true, Bool.true_eq_false, reduceCtorEq, i_neg1, i_neg2, i_neg3, i_neg4, i_neg5, i_neg6, i_neg7, i_neg8, i_neg9, i_nega, i_negb, i_negc, i_max2, i_min2, wi_nil]
    repeat (
      first
      | refine s_X8_refusedPairs_0 ?_
      | refine s_X8_refusedPairs_5 ?_
      | refine s_X8_refusedPairs_12 ?_
      | refine s_X8_refusedPairs_15 ?_
      | refine s_X8_refusedPairs_17 ?_
      | refine s_X8_refusedPairs_25 ?_
      | refine s_X8_refusedPairs_33 ?_
      | refine s_X8_refusedPairs_34 ?_
      | refine s_X8_refusedPairs_42 ?_
      | refine s_X8_refusedPairs_54 ?_
      | refine s_X8_refusedPairs_55 ?_
      | refine s_X8_refusedPairs_76 ?_
      | refine s_X8_refusedPairs_90 ?_
      | refine s_X8_refusedPairs_117 ?_
      | refine s_X8_refusedPairs_122 ?_
      | refine s_X8_refusedPairs_123 ?_
      | refine s_X8_refusedPairs_129 ?_
      simp (disch := omega) only [B_X8_refusedPairs_0, wi_aload_n, wi_iload_n, wi_invokevirtual, cnt_7, B_X8_refusedPairs_5, wi_if_eq, wi_invokestatic, B_X8_refusedPairs_12, wi_if_ne, B_X8_refusedPairs_15, wi_iconst, wi_ireturn, B_X8_refusedPairs_17, wi_getfield, fldv_7_0, fds_7_0, cnt_3, B_X8_refusedPairs_25, B_X8_refusedPairs_33, B_X8_refusedPairs_34, B_X8_refusedPairs_42, wi_istore_n, wi_irem, B_X8_refusedPairs_54, B_X8_refusedPairs_55, wi_istore, B_X8_refusedPairs_58, wi_iload, wi_iadd, wi_icmp_ge, B_X8_refusedPairs_76, B_X8_refusedPairs_90, wi_icmp_lt, wi_bipush, wi_icmp_gt, wi_if_lt, wi_icmp_le, B_X8_refusedPairs_117, B_X8_refusedPairs_122, B_X8_refusedPairs_123, wi_iinc, wi_goto, B_X8_refusedPairs_129, no0, no1, nz1, nz2, nz3, nz4, nz5, nz7, nz8, Classical.not_not, bz0, bz1, wi_nil, ld_0, ld_s, isIv_I, isLv_L, isRv_R, true_and, and_true, lset_0, lset_1, lset_s, avw_I, avw_L, avw_R, clr_cons, clr_nil, kst_0, kst_1, kstL_0, kstL_1, addk_I, pA_0, pA_s, pD_0, pD_s, wid_nil, wid_cons, rcv_c, putv_I, putv_L, List.length_cons, List.length_nil, List.set_cons_zero, List.set_cons_succ, not_false_eq_true, Nat.reduceMod, Nat.reduceDiv, Nat.reduceEqDiff, Nat.reduceLT, Nat.reduceLeDiff, Nat.reduceAdd, Nat.reduceSub, reduceIte, Nat.lt_irrefl, Nat.zero_ne_one, Nat.one_ne_zero, Nat.zero_add, List.nil_append, List.cons_append, Option.toList_some, Option.toList_none, forall_const, false_implies, true_implies, false_or, or_false, true_or, or_true, i_le, i_lt, i_eq, i_eq0, i_lt0, i_0le, i_0lt, i_le0, i_in1, i_cl, nI_add, pk_mul, pk_sub, i_div, i_rem, i_sh1, i_bit, i_or, i_and, i_andn, nt_le, nf_le, nt_lt, nf_lt, nt_eq, nf_eq, not_true_eq_false, and_self, and_false, false_and, eq_self, Bool.toNat_true, Bool.toNat_false, i_bool, i_bool1, Bool.false_eq_true, Bool.true_eq_false, reduceCtorEq, i_neg1, i_neg2, i_neg3, i_neg4, i_neg5, i_neg6, i_neg7, i_neg8, i_neg9, i_nega, i_negb, i_negc, i_max2, i_min2])
    refine c_isDeed hy hn5 ?_
    try simp (disch := omega) only [no0, no1, nz1, nz2, nz3, nz4, nz5, nz7, nz8, Classical.not_not, bz0, bz1, wi_nil, ld_0, ld_s, isIv_I, isLv_L, isRv_R, true_and, and_true, lset_0, lset_1, lset_s, avw_I, avw_L, avw_R, clr_cons, clr_nil, kst_0, kst_1, kstL_0, kstL_1, addk_I, pA_0, pA_s, pD_0, pD_s, wid_nil, wid_cons, rcv_c, putv_I, putv_L, List.length_cons, List.length_nil, List.set_cons_zero, List.set_cons_succ, not_false_eq_true, Nat.reduceMod, Nat.reduceDiv, Nat.reduceEqDiff, Nat.reduceLT, Nat.reduceLeDiff, Nat.reduceAdd, Nat.reduceSub, reduceIte, Nat.lt_irrefl, Nat.zero_ne_one, Nat.one_ne_zero, Nat.zero_add, List.nil_append, List.cons_append, Option.toList_some, Option.toList_none, forall_const, false_implies, true_implies, false_or, or_false, true_or, or_true, i_le, i_lt, i_eq, i_eq0, i_lt0, i_0le, i_0lt, i_le0, i_in1, i_cl, nI_add, pk_mul, pk_sub, i_div, i_rem, i_sh1, i_bit, i_or, i_and, i_andn, nt_le, nf_le, nt_lt, nf_lt, nt_eq, nf_eq, not_true_eq_false, and_self, and_false, false_and, eq_self, Bool.toNat_true, Bool.toNat_false, i_bool, i_bool1, Bool.false_eq_true, Bool.true_eq_false, reduceCtorEq, i_neg1, i_neg2, i_neg3, i_neg4, i_neg5, i_neg6, i_neg7, i_neg8, i_neg9, i_nega, i_negb, i_negc, i_max2, i_min2, hi, wi_nil]
    repeat (
      first
      | refine s_X8_refusedPairs_0 ?_
      | refine s_X8_refusedPairs_5 ?_
      | refine s_X8_refusedPairs_12 ?_
      | refine s_X8_refusedPairs_15 ?_
      | refine s_X8_refusedPairs_17 ?_
      | refine s_X8_refusedPairs_25 ?_
      | refine s_X8_refusedPairs_33 ?_
      | refine s_X8_refusedPairs_34 ?_
      | refine s_X8_refusedPairs_42 ?_
      | refine s_X8_refusedPairs_54 ?_
      | refine s_X8_refusedPairs_55 ?_
      | refine s_X8_refusedPairs_76 ?_
      | refine s_X8_refusedPairs_90 ?_
      | refine s_X8_refusedPairs_117 ?_
      | refine s_X8_refusedPairs_122 ?_
      | refine s_X8_refusedPairs_123 ?_
      | refine s_X8_refusedPairs_129 ?_
      simp (disch := omega) only [B_X8_refusedPairs_0, wi_aload_n, wi_iload_n, wi_invokevirtual, cnt_7, B_X8_refusedPairs_5, wi_if_eq, wi_invokestatic, B_X8_refusedPairs_12, wi_if_ne, B_X8_refusedPairs_15, wi_iconst, wi_ireturn, B_X8_refusedPairs_17, wi_getfield, fldv_7_0, fds_7_0, cnt_3, B_X8_refusedPairs_25, B_X8_refusedPairs_33, B_X8_refusedPairs_34, B_X8_refusedPairs_42, wi_istore_n, wi_irem, B_X8_refusedPairs_54, B_X8_refusedPairs_55, wi_istore, B_X8_refusedPairs_58, wi_iload, wi_iadd, wi_icmp_ge, B_X8_refusedPairs_76, B_X8_refusedPairs_90, wi_icmp_lt, wi_bipush, wi_icmp_gt, wi_if_lt, wi_icmp_le, B_X8_refusedPairs_117, B_X8_refusedPairs_122, B_X8_refusedPairs_123, wi_iinc, wi_goto, B_X8_refusedPairs_129, no0, no1, nz1, nz2, nz3, nz4, nz5, nz7, nz8, Classical.not_not, bz0, bz1, wi_nil, ld_0, ld_s, isIv_I, isLv_L, isRv_R, true_and, and_true, lset_0, lset_1, lset_s, avw_I, avw_L, avw_R, clr_cons, clr_nil, kst_0, kst_1, kstL_0, kstL_1, addk_I, pA_0, pA_s, pD_0, pD_s, wid_nil, wid_cons, rcv_c, putv_I, putv_L, List.length_cons, List.length_nil, List.set_cons_zero, List.set_cons_succ, not_false_eq_true, Nat.reduceMod, Nat.reduceDiv, Nat.reduceEqDiff, Nat.reduceLT, Nat.reduceLeDiff, Nat.reduceAdd, Nat.reduceSub, reduceIte, Nat.lt_irrefl, Nat.zero_ne_one, Nat.one_ne_zero, Nat.zero_add, List.nil_append, List.cons_append, Option.toList_some, Option.toList_none, forall_const, false_implies, true_implies, false_or, or_false, true_or, or_true, i_le, i_lt, i_eq, i_eq0, i_lt0, i_0le, i_0lt, i_le0, i_in1, i_cl, nI_add, pk_mul, pk_sub, i_div, i_rem, i_sh1, i_bit, i_or, i_and, i_andn, nt_le, nf_le, nt_lt, nf_lt, nt_eq, nf_eq, not_true_eq_false, and_self, and_false, false_and, eq_self, Bool.toNat_true, Bool.toNat_false, i_bool, i_bool1, Bool.false_eq_true, Bool.true_eq_false, reduceCtorEq, i_neg1, i_neg2, i_neg3, i_neg4, i_neg5, i_neg6, i_neg7, i_neg8, i_neg9, i_nega, i_negb, i_negc, i_max2, i_min2, hi])
    exact bad (Or.inl hi)
  · obtain ⟨a, ha, rfl⟩ := inb_nat hi
    cases hr : inB r 6
    · refine x_entry (ls2 := [aR 7 0, aI (nI a), aI r, aU, aU, aU, aU]) (Nat.le_of_ble_eq_true rfl) pl_8 rfl (Nat.le_of_ble_eq_true rfl) ?_
      try simp (disch := omega) only [no0, no1, nz1, nz2, nz3, nz4, nz5, nz7, nz8, Classical.not_not, bz0, bz1, wi_nil, ld_0, ld_s, isIv_I, isLv_L, isRv_R, true_and, and_true, lset_0, lset_1, lset_s, avw_I, avw_L, avw_R, clr_cons, clr_nil, kst_0, kst_1, kstL_0, kstL_1, addk_I, pA_0, pA_s, pD_0, pD_s, wid_nil, wid_cons, rcv_c, putv_I, putv_L, List.length_cons, List.length_nil, List.set_cons_zero, List.set_cons_succ, not_false_eq_true, Nat.reduceMod, Nat.reduceDiv, Nat.reduceEqDiff, Nat.reduceLT, Nat.reduceLeDiff, Nat.reduceAdd, Nat.reduceSub, reduceIte, Nat.lt_irrefl, Nat.zero_ne_one, Nat.one_ne_zero, Nat.zero_add, List.nil_append, List.cons_append, Option.toList_some, Option.toList_none, forall_const, false_implies, true_implies, false_or, or_false, true_or, or_true, i_le, i_lt, i_eq, i_eq0, i_lt0, i_0le, i_0lt, i_le0, i_in1, i_cl, nI_add, pk_mul, pk_sub, i_div, i_rem, i_sh1, i_bit, i_or, i_and, i_andn, nt_le, nf_le, nt_lt, nf_lt, nt_eq, nf_eq, not_true_eq_false, and_self, and_false, false_and, eq_self, Bool.toNat_true, Bool.toNat_false, i_bool, i_bool1, Bool.false_eq_true, Bool.true_eq_false, reduceCtorEq, i_neg1, i_neg2, i_neg3, i_neg4, i_neg5, i_neg6, i_neg7, i_neg8, i_neg9, i_nega, i_negb, i_negc, i_max2, i_min2, wi_nil]
      repeat (
        first
        | refine s_X8_refusedPairs_0 ?_
        | refine s_X8_refusedPairs_5 ?_
        | refine s_X8_refusedPairs_12 ?_
        | refine s_X8_refusedPairs_15 ?_
        | refine s_X8_refusedPairs_17 ?_
        | refine s_X8_refusedPairs_25 ?_
        | refine s_X8_refusedPairs_33 ?_
        | refine s_X8_refusedPairs_34 ?_
        | refine s_X8_refusedPairs_42 ?_
        | refine s_X8_refusedPairs_54 ?_
        | refine s_X8_refusedPairs_55 ?_
        | refine s_X8_refusedPairs_76 ?_
        | refine s_X8_refusedPairs_90 ?_
        | refine s_X8_refusedPairs_117 ?_
        | refine s_X8_refusedPairs_122 ?_
        | refine s_X8_refusedPairs_123 ?_
        | refine s_X8_refusedPairs_129 ?_
        simp (disch := omega) only [B_X8_refusedPairs_0, wi_aload_n, wi_iload_n, wi_invokevirtual, cnt_7, B_X8_refusedPairs_5, wi_if_eq, wi_invokestatic, B_X8_refusedPairs_12, wi_if_ne, B_X8_refusedPairs_15, wi_iconst, wi_ireturn, B_X8_refusedPairs_17, wi_getfield, fldv_7_0, fds_7_0, cnt_3, B_X8_refusedPairs_25, B_X8_refusedPairs_33, B_X8_refusedPairs_34, B_X8_refusedPairs_42, wi_istore_n, wi_irem, B_X8_refusedPairs_54, B_X8_refusedPairs_55, wi_istore, B_X8_refusedPairs_58, wi_iload, wi_iadd, wi_icmp_ge, B_X8_refusedPairs_76, B_X8_refusedPairs_90, wi_icmp_lt, wi_bipush, wi_icmp_gt, wi_if_lt, wi_icmp_le, B_X8_refusedPairs_117, B_X8_refusedPairs_122, B_X8_refusedPairs_123, wi_iinc, wi_goto, B_X8_refusedPairs_129, no0, no1, nz1, nz2, nz3, nz4, nz5, nz7, nz8, Classical.not_not, bz0, bz1, wi_nil, ld_0, ld_s, isIv_I, isLv_L, isRv_R, true_and, and_true, lset_0, lset_1, lset_s, avw_I, avw_L, avw_R, clr_cons, clr_nil, kst_0, kst_1, kstL_0, kstL_1, addk_I, pA_0, pA_s, pD_0, pD_s, wid_nil, wid_cons, rcv_c, putv_I, putv_L, List.length_cons, List.length_nil, List.set_cons_zero, List.set_cons_succ, not_false_eq_true, Nat.reduceMod, Nat.reduceDiv, Nat.reduceEqDiff, Nat.reduceLT, Nat.reduceLeDiff, Nat.reduceAdd, Nat.reduceSub, reduceIte, Nat.lt_irrefl, Nat.zero_ne_one, Nat.one_ne_zero, Nat.zero_add, List.nil_append, List.cons_append, Option.toList_some, Option.toList_none, forall_const, false_implies, true_implies, false_or, or_false, true_or, or_true, i_le, i_lt, i_eq, i_eq0, i_lt0, i_0le, i_0lt, i_le0, i_in1, i_cl, nI_add, pk_mul, pk_sub, i_div, i_rem, i_sh1, i_bit, i_or, i_and, i_andn, nt_le, nf_le, nt_lt, nf_lt, nt_eq, nf_eq, not_true_eq_false, and_self, and_false, false_and, eq_self, Bool.toNat_true, Bool.toNat_false, i_bool, i_bool1, Bool.false_eq_true, Bool.true_eq_false, reduceCtorEq, i_neg1, i_neg2, i_neg3, i_neg4, i_neg5, i_neg6, i_neg7, i_neg8, i_neg9, i_nega, i_negb, i_negc, i_max2, i_min2])
      refine c_isDeed hy hn5 ?_
      try simp (disch := omega) only [no0, no1, nz1, nz2, nz3, nz4, nz5, nz7, nz8, Classical.not_not, bz0, bz1, wi_nil, ld_0, ld_s, isIv_I, isLv_L, isRv_R, true_and, and_true, lset_0, lset_1, lset_s, avw_I, avw_L, avw_R, clr_cons, clr_nil, kst_0, kst_1, kstL_0, kstL_1, addk_I, pA_0, pA_s, pD_0, pD_s, wid_nil, wid_cons, rcv_c, putv_I, putv_L, List.length_cons, List.length_nil, List.set_cons_zero, List.set_cons_succ, not_false_eq_true, Nat.reduceMod, Nat.reduceDiv, Nat.reduceEqDiff, Nat.reduceLT, Nat.reduceLeDiff, Nat.reduceAdd, Nat.reduceSub, reduceIte, Nat.lt_irrefl, Nat.zero_ne_one, Nat.one_ne_zero, Nat.zero_add, List.nil_append, List.cons_append, Option.toList_some, Option.toList_none, forall_const, false_implies, true_implies, false_or, or_false, true_or, or_true, i_le, i_lt, i_eq, i_eq0, i_lt0, i_0le, i_0lt, i_le0, i_in1, i_cl, nI_add, pk_mul, pk_sub, i_div, i_rem, i_sh1, i_bit, i_or, i_and, i_andn, nt_le, nf_le, nt_lt, nf_lt, nt_eq, nf_eq, not_true_eq_false, and_self, and_false, false_and, eq_self, Bool.toNat_true, Bool.toNat_false, i_bool, i_bool1, Bool.false_eq_true, Bool.true_eq_false, reduceCtorEq, i_neg1, i_neg2, i_neg3, i_neg4, i_neg5, i_neg6, i_neg7, i_neg8, i_neg9, i_nega, i_negb, i_negc, i_max2, i_min2, hi, wi_nil]
      repeat (
        first
        | refine s_X8_refusedPairs_0 ?_
        | refine s_X8_refusedPairs_5 ?_
        | refine s_X8_refusedPairs_12 ?_
        | refine s_X8_refusedPairs_15 ?_
        | refine s_X8_refusedPairs_17 ?_
        | refine s_X8_refusedPairs_25 ?_
        | refine s_X8_refusedPairs_33 ?_
        | refine s_X8_refusedPairs_34 ?_
        | refine s_X8_refusedPairs_42 ?_
        | refine s_X8_refusedPairs_54 ?_
        | refine s_X8_refusedPairs_55 ?_
        | refine s_X8_refusedPairs_76 ?_
        | refine s_X8_refusedPairs_90 ?_
        | refine s_X8_refusedPairs_117 ?_
        | refine s_X8_refusedPairs_122 ?_
        | refine s_X8_refusedPairs_123 ?_
        | refine s_X8_refusedPairs_129 ?_
        simp (disch := omega) only [B_X8_refusedPairs_0, wi_aload_n, wi_iload_n, wi_invokevirtual, cnt_7, B_X8_refusedPairs_5, wi_if_eq, wi_invokestatic, B_X8_refusedPairs_12, wi_if_ne, B_X8_refusedPairs_15, wi_iconst, wi_ireturn, B_X8_refusedPairs_17, wi_getfield, fldv_7_0, fds_7_0, cnt_3, B_X8_refusedPairs_25, B_X8_refusedPairs_33, B_X8_refusedPairs_34, B_X8_refusedPairs_42, wi_istore_n, wi_irem, B_X8_refusedPairs_54, B_X8_refusedPairs_55, wi_istore, B_X8_refusedPairs_58, wi_iload, wi_iadd, wi_icmp_ge, B_X8_refusedPairs_76, B_X8_refusedPairs_90, wi_icmp_lt, wi_bipush, wi_icmp_gt, wi_if_lt, wi_icmp_le, B_X8_refusedPairs_117, B_X8_refusedPairs_122, B_X8_refusedPairs_123, wi_iinc, wi_goto, B_X8_refusedPairs_129, no0, no1, nz1, nz2, nz3, nz4, nz5, nz7, nz8, Classical.not_not, bz0, bz1, wi_nil, ld_0, ld_s, isIv_I, isLv_L, isRv_R, true_and, and_true, lset_0, lset_1, lset_s, avw_I, avw_L, avw_R, clr_cons, clr_nil, kst_0, kst_1, kstL_0, kstL_1, addk_I, pA_0, pA_s, pD_0, pD_s, wid_nil, wid_cons, rcv_c, putv_I, putv_L, List.length_cons, List.length_nil, List.set_cons_zero, List.set_cons_succ, not_false_eq_true, Nat.reduceMod, Nat.reduceDiv, Nat.reduceEqDiff, Nat.reduceLT, Nat.reduceLeDiff, Nat.reduceAdd, Nat.reduceSub, reduceIte, Nat.lt_irrefl, Nat.zero_ne_one, Nat.one_ne_zero, Nat.zero_add, List.nil_append, List.cons_append, Option.toList_some, Option.toList_none, forall_const, false_implies, true_implies, false_or, or_false, true_or, or_true, i_le, i_lt, i_eq, i_eq0, i_lt0, i_0le, i_0lt, i_le0, i_in1, i_cl, nI_add, pk_mul, pk_sub, i_div, i_rem, i_sh1, i_bit, i_or, i_and, i_andn, nt_le, nf_le, nt_lt, nf_lt, nt_eq, nf_eq, not_true_eq_false, and_self, and_false, false_and, eq_self, Bool.toNat_true, Bool.toNat_false, i_bool, i_bool1, Bool.false_eq_true, Bool.true_eq_false, reduceCtorEq, i_neg1, i_neg2, i_neg3, i_neg4, i_neg5, i_neg6, i_neg7, i_neg8, i_neg9, i_nega, i_negb, i_negc, i_max2, i_min2, hi])
      refine c_isRow ?_
      try simp (disch := omega) only [no0, no1, nz1, nz2, nz3, nz4, nz5, nz7, nz8, Classical.not_not, bz0, bz1, wi_nil, ld_0, ld_s, isIv_I, isLv_L, isRv_R, true_and, and_true, lset_0, lset_1, lset_s, avw_I, avw_L, avw_R, clr_cons, clr_nil, kst_0, kst_1, kstL_0, kstL_1, addk_I, pA_0, pA_s, pD_0, pD_s, wid_nil, wid_cons, rcv_c, putv_I, putv_L, List.length_cons, List.length_nil, List.set_cons_zero, List.set_cons_succ, not_false_eq_true, Nat.reduceMod, Nat.reduceDiv, Nat.reduceEqDiff, Nat.reduceLT, Nat.reduceLeDiff, Nat.reduceAdd, Nat.reduceSub, reduceIte, Nat.lt_irrefl, Nat.zero_ne_one, Nat.one_ne_zero, Nat.zero_add, List.nil_append, List.cons_append, Option.toList_some, Option.toList_none, forall_const, false_implies, true_implies, false_or, or_false, true_or, or_true, i_le, i_lt, i_eq, i_eq0, i_lt0, i_0le, i_0lt, i_le0, i_in1, i_cl, nI_add, pk_mul, pk_sub, i_div, i_rem, i_sh1, i_bit, i_or, i_and, i_andn, nt_le, nf_le, nt_lt, nf_lt, nt_eq, nf_eq, not_true_eq_false, and_self, and_false, false_and, eq_self, Bool.toNat_true, Bool.toNat_false, i_bool, i_bool1, Bool.false_eq_true, Bool.true_eq_false, reduceCtorEq, i_neg1, i_neg2, i_neg3, i_neg4, i_neg5, i_neg6, i_neg7, i_neg8, i_neg9, i_nega, i_negb, i_negc, i_max2, i_min2, hr, wi_nil]
      repeat (
        first
        | refine s_X8_refusedPairs_0 ?_
        | refine s_X8_refusedPairs_5 ?_
        | refine s_X8_refusedPairs_12 ?_
        | refine s_X8_refusedPairs_15 ?_
        | refine s_X8_refusedPairs_17 ?_
        | refine s_X8_refusedPairs_25 ?_
        | refine s_X8_refusedPairs_33 ?_
        | refine s_X8_refusedPairs_34 ?_
        | refine s_X8_refusedPairs_42 ?_
        | refine s_X8_refusedPairs_54 ?_
        | refine s_X8_refusedPairs_55 ?_
        | refine s_X8_refusedPairs_76 ?_
        | refine s_X8_refusedPairs_90 ?_
        | refine s_X8_refusedPairs_117 ?_
        | refine s_X8_refusedPairs_122 ?_
        | refine s_X8_refusedPairs_123 ?_
        | refine s_X8_refusedPairs_129 ?_
        simp (disch := omega) only [B_X8_refusedPairs_0, wi_aload_n, wi_iload_n, wi_invokevirtual, cnt_7, B_X8_refusedPairs_5, wi_if_eq, wi_invokestatic, B_X8_refusedPairs_12, wi_if_ne, B_X8_refusedPairs_15, wi_iconst, wi_ireturn, B_X8_refusedPairs_17, wi_getfield, fldv_7_0, fds_7_0, cnt_3, B_X8_refusedPairs_25, B_X8_refusedPairs_33, B_X8_refusedPairs_34, B_X8_refusedPairs_42, wi_istore_n, wi_irem, B_X8_refusedPairs_54, B_X8_refusedPairs_55, wi_istore, B_X8_refusedPairs_58, wi_iload, wi_iadd, wi_icmp_ge, B_X8_refusedPairs_76, B_X8_refusedPairs_90, wi_icmp_lt, wi_bipush, wi_icmp_gt, wi_if_lt, wi_icmp_le, B_X8_refusedPairs_117, B_X8_refusedPairs_122, B_X8_refusedPairs_123, wi_iinc, wi_goto, B_X8_refusedPairs_129, no0, no1, nz1, nz2, nz3, nz4, nz5, nz7, nz8, Classical.not_not, bz0, bz1, wi_nil, ld_0, ld_s, isIv_I, isLv_L, isRv_R, true_and, and_true, lset_0, lset_1, lset_s, avw_I, avw_L, avw_R, clr_cons, clr_nil, kst_0, kst_1, kstL_0, kstL_1, addk_I, pA_0, pA_s, pD_0, pD_s, wid_nil, wid_cons, rcv_c, putv_I, putv_L, List.length_cons, List.length_nil, List.set_cons_zero, List.set_cons_succ, not_false_eq_true, Nat.reduceMod, Nat.reduceDiv, Nat.reduceEqDiff, Nat.reduceLT, Nat.reduceLeDiff, Nat.reduceAdd, Nat.reduceSub, reduceIte, Nat.lt_irrefl, Nat.zero_ne_one, Nat.one_ne_zero, Nat.zero_add, List.nil_append, List.cons_append, Option.toList_some, Option.toList_none, forall_const, false_implies, true_implies, false_or, or_false, true_or, or_true, i_le, i_lt, i_eq, i_eq0, i_lt0, i_0le, i_0lt, i_le0, i_in1, i_cl, nI_add, pk_mul, pk_sub, i_div, i_rem, i_sh1, i_bit, i_or, i_and, i_andn, nt_le, nf_le, nt_lt, nf_lt, nt_eq, nf_eq, not_true_eq_false, and_self, and_false, false_and, eq_self, Bool.toNat_true, Bool.toNat_false, i_bool, i_bool1, Bool.false_eq_true, Bool.true_eq_false, reduceCtorEq, i_neg1, i_neg2, i_neg3, i_neg4, i_neg5, i_neg6, i_neg7, i_neg8, i_neg9, i_nega, i_negb, i_negc, i_max2, i_min2, hr])
      exact bad (Or.inr hr)
    · obtain ⟨b, hb, rfl⟩ := inb_nat hr
      have hz := (ht b hb).2.1
      refine x_entry (ls2 := [aR 7 0, aI (nI a), aI (nI b), aU, aU, aU, aU]) (Nat.le_of_ble_eq_true rfl) pl_8 rfl (Nat.le_of_ble_eq_true rfl) ?_
      try simp (disch := omega) only [no0, no1, nz1, nz2, nz3, nz4, nz5, nz7, nz8, Classical.not_not, bz0, bz1, wi_nil, ld_0, ld_s, isIv_I, isLv_L, isRv_R, true_and, and_true, lset_0, lset_1, lset_s, avw_I, avw_L, avw_R, clr_cons, clr_nil, kst_0, kst_1, kstL_0, kstL_1, addk_I, pA_0, pA_s, pD_0, pD_s, wid_nil, wid_cons, rcv_c, putv_I, putv_L, List.length_cons, List.length_nil, List.set_cons_zero, List.set_cons_succ, not_false_eq_true, Nat.reduceMod, Nat.reduceDiv, Nat.reduceEqDiff, Nat.reduceLT, Nat.reduceLeDiff, Nat.reduceAdd, Nat.reduceSub, reduceIte, Nat.lt_irrefl, Nat.zero_ne_one, Nat.one_ne_zero, Nat.zero_add, List.nil_append, List.cons_append, Option.toList_some, Option.toList_none, forall_const, false_implies, true_implies, false_or, or_false, true_or, or_true, i_le, i_lt, i_eq, i_eq0, i_lt0, i_0le, i_0lt, i_le0, i_in1, i_cl, nI_add, pk_mul, pk_sub, i_div, i_rem, i_sh1, i_bit, i_or, i_and, i_andn, nt_le, nf_le, nt_lt, nf_lt, nt_eq, nf_eq, not_true_eq_false, and_self, and_false, false_and, eq_self, Bool.toNat_true, Bool.toNat_false, i_bool, i_bool1, Bool.false_eq_true, Bool.true_eq_false, reduceCtorEq, i_neg1, i_neg2, i_neg3, i_neg4, i_neg5, i_neg6, i_neg7, i_neg8, i_neg9, i_nega, i_negb, i_negc, i_max2, i_min2, wi_nil]
      repeat (
        first
        | refine s_X8_refusedPairs_0 ?_
        | refine s_X8_refusedPairs_5 ?_
        | refine s_X8_refusedPairs_12 ?_
        | refine s_X8_refusedPairs_15 ?_
        | refine s_X8_refusedPairs_17 ?_
        | refine s_X8_refusedPairs_25 ?_
        | refine s_X8_refusedPairs_33 ?_
        | refine s_X8_refusedPairs_34 ?_
        | refine s_X8_refusedPairs_42 ?_
        | refine s_X8_refusedPairs_54 ?_
        | refine s_X8_refusedPairs_55 ?_
        | refine s_X8_refusedPairs_76 ?_
        | refine s_X8_refusedPairs_90 ?_
        | refine s_X8_refusedPairs_117 ?_
        | refine s_X8_refusedPairs_122 ?_
        | refine s_X8_refusedPairs_123 ?_
        | refine s_X8_refusedPairs_129 ?_
        simp (disch := omega) only [B_X8_refusedPairs_0, wi_aload_n, wi_iload_n, wi_invokevirtual, cnt_7, B_X8_refusedPairs_5, wi_if_eq, wi_invokestatic, B_X8_refusedPairs_12, wi_if_ne, B_X8_refusedPairs_15, wi_iconst, wi_ireturn, B_X8_refusedPairs_17, wi_getfield, fldv_7_0, fds_7_0, cnt_3, B_X8_refusedPairs_25, B_X8_refusedPairs_33, B_X8_refusedPairs_34, B_X8_refusedPairs_42, wi_istore_n, wi_irem, B_X8_refusedPairs_54, B_X8_refusedPairs_55, wi_istore, B_X8_refusedPairs_58, wi_iload, wi_iadd, wi_icmp_ge, B_X8_refusedPairs_76, B_X8_refusedPairs_90, wi_icmp_lt, wi_bipush, wi_icmp_gt, wi_if_lt, wi_icmp_le, B_X8_refusedPairs_117, B_X8_refusedPairs_122, B_X8_refusedPairs_123, wi_iinc, wi_goto, B_X8_refusedPairs_129, no0, no1, nz1, nz2, nz3, nz4, nz5, nz7, nz8, Classical.not_not, bz0, bz1, wi_nil, ld_0, ld_s, isIv_I, isLv_L, isRv_R, true_and, and_true, lset_0, lset_1, lset_s, avw_I, avw_L, avw_R, clr_cons, clr_nil, kst_0, kst_1, kstL_0, kstL_1, addk_I, pA_0, pA_s, pD_0, pD_s, wid_nil, wid_cons, rcv_c, putv_I, putv_L, List.length_cons, List.length_nil, List.set_cons_zero, List.set_cons_succ, not_false_eq_true, Nat.reduceMod, Nat.reduceDiv, Nat.reduceEqDiff, Nat.reduceLT, Nat.reduceLeDiff, Nat.reduceAdd, Nat.reduceSub, reduceIte, Nat.lt_irrefl, Nat.zero_ne_one, Nat.one_ne_zero, Nat.zero_add, List.nil_append, List.cons_append, Option.toList_some, Option.toList_none, forall_const, false_implies, true_implies, false_or, or_false, true_or, or_true, i_le, i_lt, i_eq, i_eq0, i_lt0, i_0le, i_0lt, i_le0, i_in1, i_cl, nI_add, pk_mul, pk_sub, i_div, i_rem, i_sh1, i_bit, i_or, i_and, i_andn, nt_le, nf_le, nt_lt, nf_lt, nt_eq, nf_eq, not_true_eq_false, and_self, and_false, false_and, eq_self, Bool.toNat_true, Bool.toNat_false, i_bool, i_bool1, Bool.false_eq_true, Bool.true_eq_false, reduceCtorEq, i_neg1, i_neg2, i_neg3, i_neg4, i_neg5, i_neg6, i_neg7, i_neg8, i_neg9, i_nega, i_negb, i_negc, i_max2, i_min2])
      refine c_isDeed hy hn5 ?_
      try simp (disch := omega) only [no0, no1, nz1, nz2, nz3, nz4, nz5, nz7, nz8, Classical.not_not, bz0, bz1, wi_nil, ld_0, ld_s, isIv_I, isLv_L, isRv_R, true_and, and_true, lset_0, lset_1, lset_s, avw_I, avw_L, avw_R, clr_cons, clr_nil, kst_0, kst_1, kstL_0, kstL_1, addk_I, pA_0, pA_s, pD_0, pD_s, wid_nil, wid_cons, rcv_c, putv_I, putv_L, List.length_cons, List.length_nil, List.set_cons_zero, List.set_cons_succ, not_false_eq_true, Nat.reduceMod, Nat.reduceDiv, Nat.reduceEqDiff, Nat.reduceLT, Nat.reduceLeDiff, Nat.reduceAdd, Nat.reduceSub, reduceIte, Nat.lt_irrefl, Nat.zero_ne_one, Nat.one_ne_zero, Nat.zero_add, List.nil_append, List.cons_append, Option.toList_some, Option.toList_none, forall_const, false_implies, true_implies, false_or, or_false, true_or, or_true, i_le, i_lt, i_eq, i_eq0, i_lt0, i_0le, i_0lt, i_le0, i_in1, i_cl, nI_add, pk_mul, pk_sub, i_div, i_rem, i_sh1, i_bit, i_or, i_and, i_andn, nt_le, nf_le, nt_lt, nf_lt, nt_eq, nf_eq, not_true_eq_false, and_self, and_false, false_and, eq_self, Bool.toNat_true, Bool.toNat_false, i_bool, i_bool1, Bool.false_eq_true, Bool.true_eq_false, reduceCtorEq, i_neg1, i_neg2, i_neg3, i_neg4, i_neg5, i_neg6, i_neg7, i_neg8, i_neg9, i_nega, i_negb, i_negc, i_max2, i_min2, hi, wi_nil]
      repeat (
        first
        | refine s_X8_refusedPairs_0 ?_
        | refine s_X8_refusedPairs_5 ?_
        | refine s_X8_refusedPairs_12 ?_
        | refine s_X8_refusedPairs_15 ?_
        | refine s_X8_refusedPairs_17 ?_
        | refine s_X8_refusedPairs_25 ?_
        | refine s_X8_refusedPairs_33 ?_
        | refine s_X8_refusedPairs_34 ?_
        | refine s_X8_refusedPairs_42 ?_
        | refine s_X8_refusedPairs_54 ?_
        | refine s_X8_refusedPairs_55 ?_
        | refine s_X8_refusedPairs_76 ?_
        | refine s_X8_refusedPairs_90 ?_
        | refine s_X8_refusedPairs_117 ?_
        | refine s_X8_refusedPairs_122 ?_
        | refine s_X8_refusedPairs_123 ?_
        | refine s_X8_refusedPairs_129 ?_
        simp (disch := omega) only [B_X8_refusedPairs_0, wi_aload_n, wi_iload_n, wi_invokevirtual, cnt_7, B_X8_refusedPairs_5, wi_if_eq, wi_invokestatic, B_X8_refusedPairs_12, wi_if_ne, B_X8_refusedPairs_15, wi_iconst, wi_ireturn, B_X8_refusedPairs_17, wi_getfield, fldv_7_0, fds_7_0, cnt_3, B_X8_refusedPairs_25, B_X8_refusedPairs_33, B_X8_refusedPairs_34, B_X8_refusedPairs_42, wi_istore_n, wi_irem, B_X8_refusedPairs_54, B_X8_refusedPairs_55, wi_istore, B_X8_refusedPairs_58, wi_iload, wi_iadd, wi_icmp_ge, B_X8_refusedPairs_76, B_X8_refusedPairs_90, wi_icmp_lt, wi_bipush, wi_icmp_gt, wi_if_lt, wi_icmp_le, B_X8_refusedPairs_117, B_X8_refusedPairs_122, B_X8_refusedPairs_123, wi_iinc, wi_goto, B_X8_refusedPairs_129, no0, no1, nz1, nz2, nz3, nz4, nz5, nz7, nz8, Classical.not_not, bz0, bz1, wi_nil, ld_0, ld_s, isIv_I, isLv_L, isRv_R, true_and, and_true, lset_0, lset_1, lset_s, avw_I, avw_L, avw_R, clr_cons, clr_nil, kst_0, kst_1, kstL_0, kstL_1, addk_I, pA_0, pA_s, pD_0, pD_s, wid_nil, wid_cons, rcv_c, putv_I, putv_L, List.length_cons, List.length_nil, List.set_cons_zero, List.set_cons_succ, not_false_eq_true, Nat.reduceMod, Nat.reduceDiv, Nat.reduceEqDiff, Nat.reduceLT, Nat.reduceLeDiff, Nat.reduceAdd, Nat.reduceSub, reduceIte, Nat.lt_irrefl, Nat.zero_ne_one, Nat.one_ne_zero, Nat.zero_add, List.nil_append, List.cons_append, Option.toList_some, Option.toList_none, forall_const, false_implies, true_implies, false_or, or_false, true_or, or_true, i_le, i_lt, i_eq, i_eq0, i_lt0, i_0le, i_0lt, i_le0, i_in1, i_cl, nI_add, pk_mul, pk_sub, i_div, i_rem, i_sh1, i_bit, i_or, i_and, i_andn, nt_le, nf_le, nt_lt, nf_lt, nt_eq, nf_eq, not_true_eq_false, and_self, and_false, false_and, eq_self, Bool.toNat_true, Bool.toNat_false, i_bool, i_bool1, Bool.false_eq_true, Bool.true_eq_false, reduceCtorEq, i_neg1, i_neg2, i_neg3, i_neg4, i_neg5, i_neg6, i_neg7, i_neg8, i_neg9, i_nega, i_negb, i_negc, i_max2, i_min2, hi])
      refine c_isRow ?_
      try simp (disch := omega) only [no0, no1, nz1, nz2, nz3, nz4, nz5, nz7, nz8, Classical.not_not, bz0, bz1, wi_nil, ld_0, ld_s, isIv_I, isLv_L, isRv_R, true_and, and_true, lset_0, lset_1, lset_s, avw_I, avw_L, avw_R, clr_cons, clr_nil, kst_0, kst_1, kstL_0, kstL_1, addk_I, pA_0, pA_s, pD_0, pD_s, wid_nil, wid_cons, rcv_c, putv_I, putv_L, List.length_cons, List.length_nil, List.set_cons_zero, List.set_cons_succ, not_false_eq_true, Nat.reduceMod, Nat.reduceDiv, Nat.reduceEqDiff, Nat.reduceLT, Nat.reduceLeDiff, Nat.reduceAdd, Nat.reduceSub, reduceIte, Nat.lt_irrefl, Nat.zero_ne_one, Nat.one_ne_zero, Nat.zero_add, List.nil_append, List.cons_append, Option.toList_some, Option.toList_none, forall_const, false_implies, true_implies, false_or, or_false, true_or, or_true, i_le, i_lt, i_eq, i_eq0, i_lt0, i_0le, i_0lt, i_le0, i_in1, i_cl, nI_add, pk_mul, pk_sub, i_div, i_rem, i_sh1, i_bit, i_or, i_and, i_andn, nt_le, nf_le, nt_lt, nf_lt, nt_eq, nf_eq, not_true_eq_false, and_self, and_false, false_and, eq_self, Bool.toNat_true, Bool.toNat_false, i_bool, i_bool1, Bool.false_eq_true, Bool.true_eq_false, reduceCtorEq, i_neg1, i_neg2, i_neg3, i_neg4, i_neg5, i_neg6, i_neg7, i_neg8, i_neg9, i_nega, i_negb, i_negc, i_max2, i_min2, hr, wi_nil]
      repeat (
        first
        | refine s_X8_refusedPairs_0 ?_
        | refine s_X8_refusedPairs_5 ?_
        | refine s_X8_refusedPairs_12 ?_
        | refine s_X8_refusedPairs_15 ?_
        | refine s_X8_refusedPairs_17 ?_
        | refine s_X8_refusedPairs_25 ?_
        | refine s_X8_refusedPairs_33 ?_
        | refine s_X8_refusedPairs_34 ?_
        | refine s_X8_refusedPairs_42 ?_
        | refine s_X8_refusedPairs_54 ?_
        | refine s_X8_refusedPairs_55 ?_
        | refine s_X8_refusedPairs_76 ?_
        | refine s_X8_refusedPairs_90 ?_
        | refine s_X8_refusedPairs_117 ?_
        | refine s_X8_refusedPairs_122 ?_
        | refine s_X8_refusedPairs_123 ?_
        | refine s_X8_refusedPairs_129 ?_
        simp (disch := omega) only [B_X8_refusedPairs_0, wi_aload_n, wi_iload_n, wi_invokevirtual, cnt_7, B_X8_refusedPairs_5, wi_if_eq, wi_invokestatic, B_X8_refusedPairs_12, wi_if_ne, B_X8_refusedPairs_15, wi_iconst, wi_ireturn, B_X8_refusedPairs_17, wi_getfield, fldv_7_0, fds_7_0, cnt_3, B_X8_refusedPairs_25, B_X8_refusedPairs_33, B_X8_refusedPairs_34, B_X8_refusedPairs_42, wi_istore_n, wi_irem, B_X8_refusedPairs_54, B_X8_refusedPairs_55, wi_istore, B_X8_refusedPairs_58, wi_iload, wi_iadd, wi_icmp_ge, B_X8_refusedPairs_76, B_X8_refusedPairs_90, wi_icmp_lt, wi_bipush, wi_icmp_gt, wi_if_lt, wi_icmp_le, B_X8_refusedPairs_117, B_X8_refusedPairs_122, B_X8_refusedPairs_123, wi_iinc, wi_goto, B_X8_refusedPairs_129, no0, no1, nz1, nz2, nz3, nz4, nz5, nz7, nz8, Classical.not_not, bz0, bz1, wi_nil, ld_0, ld_s, isIv_I, isLv_L, isRv_R, true_and, and_true, lset_0, lset_1, lset_s, avw_I, avw_L, avw_R, clr_cons, clr_nil, kst_0, kst_1, kstL_0, kstL_1, addk_I, pA_0, pA_s, pD_0, pD_s, wid_nil, wid_cons, rcv_c, putv_I, putv_L, List.length_cons, List.length_nil, List.set_cons_zero, List.set_cons_succ, not_false_eq_true, Nat.reduceMod, Nat.reduceDiv, Nat.reduceEqDiff, Nat.reduceLT, Nat.reduceLeDiff, Nat.reduceAdd, Nat.reduceSub, reduceIte, Nat.lt_irrefl, Nat.zero_ne_one, Nat.one_ne_zero, Nat.zero_add, List.nil_append, List.cons_append, Option.toList_some, Option.toList_none, forall_const, false_implies, true_implies, false_or, or_false, true_or, or_true, i_le, i_lt, i_eq, i_eq0, i_lt0, i_0le, i_0lt, i_le0, i_in1, i_cl, nI_add, pk_mul, pk_sub, i_div, i_rem, i_sh1, i_bit, i_or, i_and, i_andn, nt_le, nf_le, nt_lt, nf_lt, nt_eq, nf_eq, not_true_eq_false, and_self, and_false, false_and, eq_self, Bool.toNat_true, Bool.toNat_false, i_bool, i_bool1, Bool.false_eq_true, Bool.true_eq_false, reduceCtorEq, i_neg1, i_neg2, i_neg3, i_neg4, i_neg5, i_neg6, i_neg7, i_neg8, i_neg9, i_nega, i_negb, i_negc, i_max2, i_min2, hr])
      refine c_Rthere ht hb ?_
      rcases Nat.eq_zero_or_pos (rs b) with e | e
      · rw [if_pos e]
        try simp (disch := omega) only [no0, no1, nz1, nz2, nz3, nz4, nz5, nz7, nz8, Classical.not_not, bz0, bz1, wi_nil, ld_0, ld_s, isIv_I, isLv_L, isRv_R, true_and, and_true, lset_0, lset_1, lset_s, avw_I, avw_L, avw_R, clr_cons, clr_nil, kst_0, kst_1, kstL_0, kstL_1, addk_I, pA_0, pA_s, pD_0, pD_s, wid_nil, wid_cons, rcv_c, putv_I, putv_L, List.length_cons, List.length_nil, List.set_cons_zero, List.set_cons_succ, not_false_eq_true, Nat.reduceMod, Nat.reduceDiv, Nat.reduceEqDiff, Nat.reduceLT, Nat.reduceLeDiff, Nat.reduceAdd, Nat.reduceSub, reduceIte, Nat.lt_irrefl, Nat.zero_ne_one, Nat.one_ne_zero, Nat.zero_add, List.nil_append, List.cons_append, Option.toList_some, Option.toList_none, forall_const, false_implies, true_implies, false_or, or_false, true_or, or_true, i_le, i_lt, i_eq, i_eq0, i_lt0, i_0le, i_0lt, i_le0, i_in1, i_cl, nI_add, pk_mul, pk_sub, i_div, i_rem, i_sh1, i_bit, i_or, i_and, i_andn, nt_le, nf_le, nt_lt, nf_lt, nt_eq, nf_eq, not_true_eq_false, and_self, and_false, false_and, eq_self, Bool.toNat_true, Bool.toNat_false, i_bool, i_bool1, Bool.false_eq_true, Bool.true_eq_false, reduceCtorEq, i_neg1, i_neg2, i_neg3, i_neg4, i_neg5, i_neg6, i_neg7, i_neg8, i_neg9, i_nega, i_negb, i_negc, i_max2, i_min2, wi_nil]
        repeat (
          first
          | refine s_X8_refusedPairs_0 ?_
          | refine s_X8_refusedPairs_5 ?_
          | refine s_X8_refusedPairs_12 ?_
          | refine s_X8_refusedPairs_15 ?_
          | refine s_X8_refusedPairs_17 ?_
          | refine s_X8_refusedPairs_25 ?_
          | refine s_X8_refusedPairs_33 ?_
          | refine s_X8_refusedPairs_34 ?_
          | refine s_X8_refusedPairs_42 ?_
          | refine s_X8_refusedPairs_54 ?_
          | refine s_X8_refusedPairs_55 ?_
          | refine s_X8_refusedPairs_76 ?_
          | refine s_X8_refusedPairs_90 ?_
          | refine s_X8_refusedPairs_117 ?_
          | refine s_X8_refusedPairs_122 ?_
          | refine s_X8_refusedPairs_123 ?_
          | refine s_X8_refusedPairs_129 ?_
          simp (disch := omega) only [B_X8_refusedPairs_0, wi_aload_n, wi_iload_n, wi_invokevirtual, cnt_7, B_X8_refusedPairs_5, wi_if_eq, wi_invokestatic, B_X8_refusedPairs_12, wi_if_ne, B_X8_refusedPairs_15, wi_iconst, wi_ireturn, B_X8_refusedPairs_17, wi_getfield, fldv_7_0, fds_7_0, cnt_3, B_X8_refusedPairs_25, B_X8_refusedPairs_33, B_X8_refusedPairs_34, B_X8_refusedPairs_42, wi_istore_n, wi_irem, B_X8_refusedPairs_54, B_X8_refusedPairs_55, wi_istore, B_X8_refusedPairs_58, wi_iload, wi_iadd, wi_icmp_ge, B_X8_refusedPairs_76, B_X8_refusedPairs_90, wi_icmp_lt, wi_bipush, wi_icmp_gt, wi_if_lt, wi_icmp_le, B_X8_refusedPairs_117, B_X8_refusedPairs_122, B_X8_refusedPairs_123, wi_iinc, wi_goto, B_X8_refusedPairs_129, no0, no1, nz1, nz2, nz3, nz4, nz5, nz7, nz8, Classical.not_not, bz0, bz1, wi_nil, ld_0, ld_s, isIv_I, isLv_L, isRv_R, true_and, and_true, lset_0, lset_1, lset_s, avw_I, avw_L, avw_R, clr_cons, clr_nil, kst_0, kst_1, kstL_0, kstL_1, addk_I, pA_0, pA_s, pD_0, pD_s, wid_nil, wid_cons, rcv_c, putv_I, putv_L, List.length_cons, List.length_nil, List.set_cons_zero, List.set_cons_succ, not_false_eq_true, Nat.reduceMod, Nat.reduceDiv, Nat.reduceEqDiff, Nat.reduceLT, Nat.reduceLeDiff, Nat.reduceAdd, Nat.reduceSub, reduceIte, Nat.lt_irrefl, Nat.zero_ne_one, Nat.one_ne_zero, Nat.zero_add, List.nil_append, List.cons_append, Option.toList_some, Option.toList_none, forall_const, false_implies, true_implies, false_or, or_false, true_or, or_true, i_le, i_lt, i_eq, i_eq0, i_lt0, i_0le, i_0lt, i_le0, i_in1, i_cl, nI_add, pk_mul, pk_sub, i_div, i_rem, i_sh1, i_bit, i_or, i_and, i_andn, nt_le, nf_le, nt_lt, nf_lt, nt_eq, nf_eq, not_true_eq_false, and_self, and_false, false_and, eq_self, Bool.toNat_true, Bool.toNat_false, i_bool, i_bool1, Bool.false_eq_true, Bool.true_eq_false, reduceCtorEq, i_neg1, i_neg2, i_neg3, i_neg4, i_neg5, i_neg6, i_neg7, i_neg8, i_neg9, i_nega, i_negb, i_negc, i_max2, i_min2])
        refine c_refuse (by decide) ?_
        try simp (disch := omega) only [no0, no1, nz1, nz2, nz3, nz4, nz5, nz7, nz8, Classical.not_not, bz0, bz1, wi_nil, ld_0, ld_s, isIv_I, isLv_L, isRv_R, true_and, and_true, lset_0, lset_1, lset_s, avw_I, avw_L, avw_R, clr_cons, clr_nil, kst_0, kst_1, kstL_0, kstL_1, addk_I, pA_0, pA_s, pD_0, pD_s, wid_nil, wid_cons, rcv_c, putv_I, putv_L, List.length_cons, List.length_nil, List.set_cons_zero, List.set_cons_succ, not_false_eq_true, Nat.reduceMod, Nat.reduceDiv, Nat.reduceEqDiff, Nat.reduceLT, Nat.reduceLeDiff, Nat.reduceAdd, Nat.reduceSub, reduceIte, Nat.lt_irrefl, Nat.zero_ne_one, Nat.one_ne_zero, Nat.zero_add, List.nil_append, List.cons_append, Option.toList_some, Option.toList_none, forall_const, false_implies, true_implies, false_or, or_false, true_or, or_true, i_le, i_lt, i_eq, i_eq0, i_lt0, i_0le, i_0lt, i_le0, i_in1, i_cl, nI_add, pk_mul, pk_sub, i_div, i_rem, i_sh1, i_bit, i_or, i_and, i_andn, nt_le, nf_le, nt_lt, nf_lt, nt_eq, nf_eq, not_true_eq_false, and_self, and_false, false_and, eq_self, Bool.toNat_true, Bool.toNat_false, i_bool, i_bool1, Bool.false_eq_true, Bool.true_eq_false, reduceCtorEq, i_neg1, i_neg2, i_neg3, i_neg4, i_neg5, i_neg6, i_neg7, i_neg8, i_neg9, i_nega, i_negb, i_negc, i_max2, i_min2, wi_nil]
        repeat (
          first
          | refine s_X8_refusedPairs_0 ?_
          | refine s_X8_refusedPairs_5 ?_
          | refine s_X8_refusedPairs_12 ?_
          | refine s_X8_refusedPairs_15 ?_
          | refine s_X8_refusedPairs_17 ?_
          | refine s_X8_refusedPairs_25 ?_
          | refine s_X8_refusedPairs_33 ?_
          | refine s_X8_refusedPairs_34 ?_
          | refine s_X8_refusedPairs_42 ?_
          | refine s_X8_refusedPairs_54 ?_
          | refine s_X8_refusedPairs_55 ?_
          | refine s_X8_refusedPairs_76 ?_
          | refine s_X8_refusedPairs_90 ?_
          | refine s_X8_refusedPairs_117 ?_
          | refine s_X8_refusedPairs_122 ?_
          | refine s_X8_refusedPairs_123 ?_
          | refine s_X8_refusedPairs_129 ?_
          simp (disch := omega) only [B_X8_refusedPairs_0, wi_aload_n, wi_iload_n, wi_invokevirtual, cnt_7, B_X8_refusedPairs_5, wi_if_eq, wi_invokestatic, B_X8_refusedPairs_12, wi_if_ne, B_X8_refusedPairs_15, wi_iconst, wi_ireturn, B_X8_refusedPairs_17, wi_getfield, fldv_7_0, fds_7_0, cnt_3, B_X8_refusedPairs_25, B_X8_refusedPairs_33, B_X8_refusedPairs_34, B_X8_refusedPairs_42, wi_istore_n, wi_irem, B_X8_refusedPairs_54, B_X8_refusedPairs_55, wi_istore, B_X8_refusedPairs_58, wi_iload, wi_iadd, wi_icmp_ge, B_X8_refusedPairs_76, B_X8_refusedPairs_90, wi_icmp_lt, wi_bipush, wi_icmp_gt, wi_if_lt, wi_icmp_le, B_X8_refusedPairs_117, B_X8_refusedPairs_122, B_X8_refusedPairs_123, wi_iinc, wi_goto, B_X8_refusedPairs_129, no0, no1, nz1, nz2, nz3, nz4, nz5, nz7, nz8, Classical.not_not, bz0, bz1, wi_nil, ld_0, ld_s, isIv_I, isLv_L, isRv_R, true_and, and_true, lset_0, lset_1, lset_s, avw_I, avw_L, avw_R, clr_cons, clr_nil, kst_0, kst_1, kstL_0, kstL_1, addk_I, pA_0, pA_s, pD_0, pD_s, wid_nil, wid_cons, rcv_c, putv_I, putv_L, List.length_cons, List.length_nil, List.set_cons_zero, List.set_cons_succ, not_false_eq_true, Nat.reduceMod, Nat.reduceDiv, Nat.reduceEqDiff, Nat.reduceLT, Nat.reduceLeDiff, Nat.reduceAdd, Nat.reduceSub, reduceIte, Nat.lt_irrefl, Nat.zero_ne_one, Nat.one_ne_zero, Nat.zero_add, List.nil_append, List.cons_append, Option.toList_some, Option.toList_none, forall_const, false_implies, true_implies, false_or, or_false, true_or, or_true, i_le, i_lt, i_eq, i_eq0, i_lt0, i_0le, i_0lt, i_le0, i_in1, i_cl, nI_add, pk_mul, pk_sub, i_div, i_rem, i_sh1, i_bit, i_or, i_and, i_andn, nt_le, nf_le, nt_lt, nf_lt, nt_eq, nf_eq, not_true_eq_false, and_self, and_false, false_and, eq_self, Bool.toNat_true, Bool.toNat_false, i_bool, i_bool1, Bool.false_eq_true, Bool.true_eq_false, reduceCtorEq, i_neg1, i_neg2, i_neg3, i_neg4, i_neg5, i_neg6, i_neg7, i_neg8, i_neg9, i_nega, i_negb, i_negc, i_max2, i_min2])
        exact miss a b ha rfl hb rfl e
      · rw [if_neg (by omega)]
        try simp (disch := omega) only [no0, no1, nz1, nz2, nz3, nz4, nz5, nz7, nz8, Classical.not_not, bz0, bz1, wi_nil, ld_0, ld_s, isIv_I, isLv_L, isRv_R, true_and, and_true, lset_0, lset_1, lset_s, avw_I, avw_L, avw_R, clr_cons, clr_nil, kst_0, kst_1, kstL_0, kstL_1, addk_I, pA_0, pA_s, pD_0, pD_s, wid_nil, wid_cons, rcv_c, putv_I, putv_L, List.length_cons, List.length_nil, List.set_cons_zero, List.set_cons_succ, not_false_eq_true, Nat.reduceMod, Nat.reduceDiv, Nat.reduceEqDiff, Nat.reduceLT, Nat.reduceLeDiff, Nat.reduceAdd, Nat.reduceSub, reduceIte, Nat.lt_irrefl, Nat.zero_ne_one, Nat.one_ne_zero, Nat.zero_add, List.nil_append, List.cons_append, Option.toList_some, Option.toList_none, forall_const, false_implies, true_implies, false_or, or_false, true_or, or_true, i_le, i_lt, i_eq, i_eq0, i_lt0, i_0le, i_0lt, i_le0, i_in1, i_cl, nI_add, pk_mul, pk_sub, i_div, i_rem, i_sh1, i_bit, i_or, i_and, i_andn, nt_le, nf_le, nt_lt, nf_lt, nt_eq, nf_eq, not_true_eq_false, and_self, and_false, false_and, eq_self, Bool.toNat_true, Bool.toNat_false, i_bool, i_bool1, Bool.false_eq_true, Bool.true_eq_false, reduceCtorEq, i_neg1, i_neg2, i_neg3, i_neg4, i_neg5, i_neg6, i_neg7, i_neg8, i_neg9, i_nega, i_negb, i_negc, i_max2, i_min2, wi_nil]
        repeat (
          first
          | refine s_X8_refusedPairs_0 ?_
          | refine s_X8_refusedPairs_5 ?_
          | refine s_X8_refusedPairs_12 ?_
          | refine s_X8_refusedPairs_15 ?_
          | refine s_X8_refusedPairs_17 ?_
          | refine s_X8_refusedPairs_25 ?_
          | refine s_X8_refusedPairs_33 ?_
          | refine s_X8_refusedPairs_34 ?_
          | refine s_X8_refusedPairs_42 ?_
          | refine s_X8_refusedPairs_54 ?_
          | refine s_X8_refusedPairs_55 ?_
          | refine s_X8_refusedPairs_76 ?_
          | refine s_X8_refusedPairs_90 ?_
          | refine s_X8_refusedPairs_117 ?_
          | refine s_X8_refusedPairs_122 ?_
          | refine s_X8_refusedPairs_123 ?_
          | refine s_X8_refusedPairs_129 ?_
          simp (disch := omega) only [B_X8_refusedPairs_0, wi_aload_n, wi_iload_n, wi_invokevirtual, cnt_7, B_X8_refusedPairs_5, wi_if_eq, wi_invokestatic, B_X8_refusedPairs_12, wi_if_ne, B_X8_refusedPairs_15, wi_iconst, wi_ireturn, B_X8_refusedPairs_17, wi_getfield, fldv_7_0, fds_7_0, cnt_3, B_X8_refusedPairs_25, B_X8_refusedPairs_33, B_X8_refusedPairs_34, B_X8_refusedPairs_42, wi_istore_n, wi_irem, B_X8_refusedPairs_54, B_X8_refusedPairs_55, wi_istore, B_X8_refusedPairs_58, wi_iload, wi_iadd, wi_icmp_ge, B_X8_refusedPairs_76, B_X8_refusedPairs_90, wi_icmp_lt, wi_bipush, wi_icmp_gt, wi_if_lt, wi_icmp_le, B_X8_refusedPairs_117, B_X8_refusedPairs_122, B_X8_refusedPairs_123, wi_iinc, wi_goto, B_X8_refusedPairs_129, no0, no1, nz1, nz2, nz3, nz4, nz5, nz7, nz8, Classical.not_not, bz0, bz1, wi_nil, ld_0, ld_s, isIv_I, isLv_L, isRv_R, true_and, and_true, lset_0, lset_1, lset_s, avw_I, avw_L, avw_R, clr_cons, clr_nil, kst_0, kst_1, kstL_0, kstL_1, addk_I, pA_0, pA_s, pD_0, pD_s, wid_nil, wid_cons, rcv_c, putv_I, putv_L, List.length_cons, List.length_nil, List.set_cons_zero, List.set_cons_succ, not_false_eq_true, Nat.reduceMod, Nat.reduceDiv, Nat.reduceEqDiff, Nat.reduceLT, Nat.reduceLeDiff, Nat.reduceAdd, Nat.reduceSub, reduceIte, Nat.lt_irrefl, Nat.zero_ne_one, Nat.one_ne_zero, Nat.zero_add, List.nil_append, List.cons_append, Option.toList_some, Option.toList_none, forall_const, false_implies, true_implies, false_or, or_false, true_or, or_true, i_le, i_lt, i_eq, i_eq0, i_lt0, i_0le, i_0lt, i_le0, i_in1, i_cl, nI_add, pk_mul, pk_sub, i_div, i_rem, i_sh1, i_bit, i_or, i_and, i_andn, nt_le, nf_le, nt_lt, nf_lt, nt_eq, nf_eq, not_true_eq_false, and_self, and_false, false_and, eq_self, Bool.toNat_true, Bool.toNat_false, i_bool, i_bool1, Bool.false_eq_true, Bool.true_eq_false, reduceCtorEq, i_neg1, i_neg2, i_neg3, i_neg4, i_neg5, i_neg6, i_neg7, i_neg8, i_neg9, i_nega, i_negb, i_negc, i_max2, i_min2])
        refine c_Rlength ht hb ?_
        rcases Nat.mod_two_eq_zero_or_one (rs b) with e2 | e2
        · obtain ⟨h, hh⟩ : ∃ h, rs b = 2 * h + 2 := ⟨rs b / 2 - 1, by omega⟩
          rw [hh, show 2 * h + 2 = 2 * h + 1 + 1 by omega, sz_s]
          try simp (disch := omega) only [no0, no1, nz1, nz2, nz3, nz4, nz5, nz7, nz8, Classical.not_not, bz0, bz1, wi_nil, ld_0, ld_s, isIv_I, isLv_L, isRv_R, true_and, and_true, lset_0, lset_1, lset_s, avw_I, avw_L, avw_R, clr_cons, clr_nil, kst_0, kst_1, kstL_0, kstL_1, addk_I, pA_0, pA_s, pD_0, pD_s, wid_nil, wid_cons, rcv_c, putv_I, putv_L, List.length_cons, List.length_nil, List.set_cons_zero, List.set_cons_succ, not_false_eq_true, Nat.reduceMod, Nat.reduceDiv, Nat.reduceEqDiff, Nat.reduceLT, Nat.reduceLeDiff, Nat.reduceAdd, Nat.reduceSub, reduceIte, Nat.lt_irrefl, Nat.zero_ne_one, Nat.one_ne_zero, Nat.zero_add, List.nil_append, List.cons_append, Option.toList_some, Option.toList_none, forall_const, false_implies, true_implies, false_or, or_false, true_or, or_true, i_le, i_lt, i_eq, i_eq0, i_lt0, i_0le, i_0lt, i_le0, i_in1, i_cl, nI_add, pk_mul, pk_sub, i_div, i_rem, i_sh1, i_bit, i_or, i_and, i_andn, nt_le, nf_le, nt_lt, nf_lt, nt_eq, nf_eq, not_true_eq_false, and_self, and_false, false_and, eq_self, Bool.toNat_true, Bool.toNat_false, i_bool, i_bool1, Bool.false_eq_true, Bool.true_eq_false, reduceCtorEq, i_neg1, i_neg2, i_neg3, i_neg4, i_neg5, i_neg6, i_neg7, i_neg8, i_neg9, i_nega, i_negb, i_negc, i_max2, i_min2, wi_nil]
          repeat (
            first
            | refine s_X8_refusedPairs_0 ?_
            | refine s_X8_refusedPairs_5 ?_
            | refine s_X8_refusedPairs_12 ?_
            | refine s_X8_refusedPairs_15 ?_
            | refine s_X8_refusedPairs_17 ?_
            | refine s_X8_refusedPairs_25 ?_
            | refine s_X8_refusedPairs_33 ?_
            | refine s_X8_refusedPairs_34 ?_
            | refine s_X8_refusedPairs_42 ?_
            | refine s_X8_refusedPairs_54 ?_
            | refine s_X8_refusedPairs_55 ?_
            | refine s_X8_refusedPairs_76 ?_
            | refine s_X8_refusedPairs_90 ?_
            | refine s_X8_refusedPairs_117 ?_
            | refine s_X8_refusedPairs_122 ?_
            | refine s_X8_refusedPairs_123 ?_
            | refine s_X8_refusedPairs_129 ?_
            simp (disch := omega) only [B_X8_refusedPairs_0, wi_aload_n, wi_iload_n, wi_invokevirtual, cnt_7, B_X8_refusedPairs_5, wi_if_eq, wi_invokestatic, B_X8_refusedPairs_12, wi_if_ne, B_X8_refusedPairs_15, wi_iconst, wi_ireturn, B_X8_refusedPairs_17, wi_getfield, fldv_7_0, fds_7_0, cnt_3, B_X8_refusedPairs_25, B_X8_refusedPairs_33, B_X8_refusedPairs_34, B_X8_refusedPairs_42, wi_istore_n, wi_irem, B_X8_refusedPairs_54, B_X8_refusedPairs_55, wi_istore, B_X8_refusedPairs_58, wi_iload, wi_iadd, wi_icmp_ge, B_X8_refusedPairs_76, B_X8_refusedPairs_90, wi_icmp_lt, wi_bipush, wi_icmp_gt, wi_if_lt, wi_icmp_le, B_X8_refusedPairs_117, B_X8_refusedPairs_122, B_X8_refusedPairs_123, wi_iinc, wi_goto, B_X8_refusedPairs_129, no0, no1, nz1, nz2, nz3, nz4, nz5, nz7, nz8, Classical.not_not, bz0, bz1, wi_nil, ld_0, ld_s, isIv_I, isLv_L, isRv_R, true_and, and_true, lset_0, lset_1, lset_s, avw_I, avw_L, avw_R, clr_cons, clr_nil, kst_0, kst_1, kstL_0, kstL_1, addk_I, pA_0, pA_s, pD_0, pD_s, wid_nil, wid_cons, rcv_c, putv_I, putv_L, List.length_cons, List.length_nil, List.set_cons_zero, List.set_cons_succ, not_false_eq_true, Nat.reduceMod, Nat.reduceDiv, Nat.reduceEqDiff, Nat.reduceLT, Nat.reduceLeDiff, Nat.reduceAdd, Nat.reduceSub, reduceIte, Nat.lt_irrefl, Nat.zero_ne_one, Nat.one_ne_zero, Nat.zero_add, List.nil_append, List.cons_append, Option.toList_some, Option.toList_none, forall_const, false_implies, true_implies, false_or, or_false, true_or, or_true, i_le, i_lt, i_eq, i_eq0, i_lt0, i_0le, i_0lt, i_le0, i_in1, i_cl, nI_add, pk_mul, pk_sub, i_div, i_rem, i_sh1, i_bit, i_or, i_and, i_andn, nt_le, nf_le, nt_lt, nf_lt, nt_eq, nf_eq, not_true_eq_false, and_self, and_false, false_and, eq_self, Bool.toNat_true, Bool.toNat_false, i_bool, i_bool1, Bool.false_eq_true, Bool.true_eq_false, reduceCtorEq, i_neg1, i_neg2, i_neg3, i_neg4, i_neg5, i_neg6, i_neg7, i_neg8, i_neg9, i_nega, i_negb, i_negc, i_max2, i_min2])
          refine c_refuse (by decide) ?_
          try simp (disch := omega) only [no0, no1, nz1, nz2, nz3, nz4, nz5, nz7, nz8, Classical.not_not, bz0, bz1, wi_nil, ld_0, ld_s, isIv_I, isLv_L, isRv_R, true_and, and_true, lset_0, lset_1, lset_s, avw_I, avw_L, avw_R, clr_cons, clr_nil, kst_0, kst_1, kstL_0, kstL_1, addk_I, pA_0, pA_s, pD_0, pD_s, wid_nil, wid_cons, rcv_c, putv_I, putv_L, List.length_cons, List.length_nil, List.set_cons_zero, List.set_cons_succ, not_false_eq_true, Nat.reduceMod, Nat.reduceDiv, Nat.reduceEqDiff, Nat.reduceLT, Nat.reduceLeDiff, Nat.reduceAdd, Nat.reduceSub, reduceIte, Nat.lt_irrefl, Nat.zero_ne_one, Nat.one_ne_zero, Nat.zero_add, List.nil_append, List.cons_append, Option.toList_some, Option.toList_none, forall_const, false_implies, true_implies, false_or, or_false, true_or, or_true, i_le, i_lt, i_eq, i_eq0, i_lt0, i_0le, i_0lt, i_le0, i_in1, i_cl, nI_add, pk_mul, pk_sub, i_div, i_rem, i_sh1, i_bit, i_or, i_and, i_andn, nt_le, nf_le, nt_lt, nf_lt, nt_eq, nf_eq, not_true_eq_false, and_self, and_false, false_and, eq_self, Bool.toNat_true, Bool.toNat_false, i_bool, i_bool1, Bool.false_eq_true, Bool.true_eq_false, reduceCtorEq, i_neg1, i_neg2, i_neg3, i_neg4, i_neg5, i_neg6, i_neg7, i_neg8, i_neg9, i_nega, i_negb, i_negc, i_max2, i_min2, wi_nil]
          repeat (
            first
            | refine s_X8_refusedPairs_0 ?_
            | refine s_X8_refusedPairs_5 ?_
            | refine s_X8_refusedPairs_12 ?_
            | refine s_X8_refusedPairs_15 ?_
            | refine s_X8_refusedPairs_17 ?_
            | refine s_X8_refusedPairs_25 ?_
            | refine s_X8_refusedPairs_33 ?_
            | refine s_X8_refusedPairs_34 ?_
            | refine s_X8_refusedPairs_42 ?_
            | refine s_X8_refusedPairs_54 ?_
            | refine s_X8_refusedPairs_55 ?_
            | refine s_X8_refusedPairs_76 ?_
            | refine s_X8_refusedPairs_90 ?_
            | refine s_X8_refusedPairs_117 ?_
            | refine s_X8_refusedPairs_122 ?_
            | refine s_X8_refusedPairs_123 ?_
            | refine s_X8_refusedPairs_129 ?_
            simp (disch := omega) only [B_X8_refusedPairs_0, wi_aload_n, wi_iload_n, wi_invokevirtual, cnt_7, B_X8_refusedPairs_5, wi_if_eq, wi_invokestatic, B_X8_refusedPairs_12, wi_if_ne, B_X8_refusedPairs_15, wi_iconst, wi_ireturn, B_X8_refusedPairs_17, wi_getfield, fldv_7_0, fds_7_0, cnt_3, B_X8_refusedPairs_25, B_X8_refusedPairs_33, B_X8_refusedPairs_34, B_X8_refusedPairs_42, wi_istore_n, wi_irem, B_X8_refusedPairs_54, B_X8_refusedPairs_55, wi_istore, B_X8_refusedPairs_58, wi_iload, wi_iadd, wi_icmp_ge, B_X8_refusedPairs_76, B_X8_refusedPairs_90, wi_icmp_lt, wi_bipush, wi_icmp_gt, wi_if_lt, wi_icmp_le, B_X8_refusedPairs_117, B_X8_refusedPairs_122, B_X8_refusedPairs_123, wi_iinc, wi_goto, B_X8_refusedPairs_129, no0, no1, nz1, nz2, nz3, nz4, nz5, nz7, nz8, Classical.not_not, bz0, bz1, wi_nil, ld_0, ld_s, isIv_I, isLv_L, isRv_R, true_and, and_true, lset_0, lset_1, lset_s, avw_I, avw_L, avw_R, clr_cons, clr_nil, kst_0, kst_1, kstL_0, kstL_1, addk_I, pA_0, pA_s, pD_0, pD_s, wid_nil, wid_cons, rcv_c, putv_I, putv_L, List.length_cons, List.length_nil, List.set_cons_zero, List.set_cons_succ, not_false_eq_true, Nat.reduceMod, Nat.reduceDiv, Nat.reduceEqDiff, Nat.reduceLT, Nat.reduceLeDiff, Nat.reduceAdd, Nat.reduceSub, reduceIte, Nat.lt_irrefl, Nat.zero_ne_one, Nat.one_ne_zero, Nat.zero_add, List.nil_append, List.cons_append, Option.toList_some, Option.toList_none, forall_const, false_implies, true_implies, false_or, or_false, true_or, or_true, i_le, i_lt, i_eq, i_eq0, i_lt0, i_0le, i_0lt, i_le0, i_in1, i_cl, nI_add, pk_mul, pk_sub, i_div, i_rem, i_sh1, i_bit, i_or, i_and, i_andn, nt_le, nf_le, nt_lt, nf_lt, nt_eq, nf_eq, not_true_eq_false, and_self, and_false, false_and, eq_self, Bool.toNat_true, Bool.toNat_false, i_bool, i_bool1, Bool.false_eq_true, Bool.true_eq_false, reduceCtorEq, i_neg1, i_neg2, i_neg3, i_neg4, i_neg5, i_neg6, i_neg7, i_neg8, i_neg9, i_nega, i_negb, i_negc, i_max2, i_min2])
          exact odd a b h ha rfl hb rfl (by omega) hh
        · obtain ⟨h, hh⟩ : ∃ h, rs b = 2 * h + 1 := ⟨rs b / 2, by omega⟩
          rw [hh, sz_s]
          try simp (disch := omega) only [no0, no1, nz1, nz2, nz3, nz4, nz5, nz7, nz8, Classical.not_not, bz0, bz1, wi_nil, ld_0, ld_s, isIv_I, isLv_L, isRv_R, true_and, and_true, lset_0, lset_1, lset_s, avw_I, avw_L, avw_R, clr_cons, clr_nil, kst_0, kst_1, kstL_0, kstL_1, addk_I, pA_0, pA_s, pD_0, pD_s, wid_nil, wid_cons, rcv_c, putv_I, putv_L, List.length_cons, List.length_nil, List.set_cons_zero, List.set_cons_succ, not_false_eq_true, Nat.reduceMod, Nat.reduceDiv, Nat.reduceEqDiff, Nat.reduceLT, Nat.reduceLeDiff, Nat.reduceAdd, Nat.reduceSub, reduceIte, Nat.lt_irrefl, Nat.zero_ne_one, Nat.one_ne_zero, Nat.zero_add, List.nil_append, List.cons_append, Option.toList_some, Option.toList_none, forall_const, false_implies, true_implies, false_or, or_false, true_or, or_true, i_le, i_lt, i_eq, i_eq0, i_lt0, i_0le, i_0lt, i_le0, i_in1, i_cl, nI_add, pk_mul, pk_sub, i_div, i_rem, i_sh1, i_bit, i_or, i_and, i_andn, nt_le, nf_le, nt_lt, nf_lt, nt_eq, nf_eq, not_true_eq_false, and_self, and_false, false_and, eq_self, Bool.toNat_true, Bool.toNat_false, i_bool, i_bool1, Bool.false_eq_true, Bool.true_eq_false, reduceCtorEq, i_neg1, i_neg2, i_neg3, i_neg4, i_neg5, i_neg6, i_neg7, i_neg8, i_neg9, i_nega, i_negb, i_negc, i_max2, i_min2, wi_nil]
          repeat (
            first
            | refine s_X8_refusedPairs_0 ?_
            | refine s_X8_refusedPairs_5 ?_
            | refine s_X8_refusedPairs_12 ?_
            | refine s_X8_refusedPairs_15 ?_
            | refine s_X8_refusedPairs_17 ?_
            | refine s_X8_refusedPairs_25 ?_
            | refine s_X8_refusedPairs_33 ?_
            | refine s_X8_refusedPairs_34 ?_
            | refine s_X8_refusedPairs_42 ?_
            | refine s_X8_refusedPairs_54 ?_
            | refine s_X8_refusedPairs_55 ?_
            | refine s_X8_refusedPairs_76 ?_
            | refine s_X8_refusedPairs_90 ?_
            | refine s_X8_refusedPairs_117 ?_
            | refine s_X8_refusedPairs_122 ?_
            | refine s_X8_refusedPairs_123 ?_
            | refine s_X8_refusedPairs_129 ?_
            simp (disch := omega) only [B_X8_refusedPairs_0, wi_aload_n, wi_iload_n, wi_invokevirtual, cnt_7, B_X8_refusedPairs_5, wi_if_eq, wi_invokestatic, B_X8_refusedPairs_12, wi_if_ne, B_X8_refusedPairs_15, wi_iconst, wi_ireturn, B_X8_refusedPairs_17, wi_getfield, fldv_7_0, fds_7_0, cnt_3, B_X8_refusedPairs_25, B_X8_refusedPairs_33, B_X8_refusedPairs_34, B_X8_refusedPairs_42, wi_istore_n, wi_irem, B_X8_refusedPairs_54, B_X8_refusedPairs_55, wi_istore, B_X8_refusedPairs_58, wi_iload, wi_iadd, wi_icmp_ge, B_X8_refusedPairs_76, B_X8_refusedPairs_90, wi_icmp_lt, wi_bipush, wi_icmp_gt, wi_if_lt, wi_icmp_le, B_X8_refusedPairs_117, B_X8_refusedPairs_122, B_X8_refusedPairs_123, wi_iinc, wi_goto, B_X8_refusedPairs_129, no0, no1, nz1, nz2, nz3, nz4, nz5, nz7, nz8, Classical.not_not, bz0, bz1, wi_nil, ld_0, ld_s, isIv_I, isLv_L, isRv_R, true_and, and_true, lset_0, lset_1, lset_s, avw_I, avw_L, avw_R, clr_cons, clr_nil, kst_0, kst_1, kstL_0, kstL_1, addk_I, pA_0, pA_s, pD_0, pD_s, wid_nil, wid_cons, rcv_c, putv_I, putv_L, List.length_cons, List.length_nil, List.set_cons_zero, List.set_cons_succ, not_false_eq_true, Nat.reduceMod, Nat.reduceDiv, Nat.reduceEqDiff, Nat.reduceLT, Nat.reduceLeDiff, Nat.reduceAdd, Nat.reduceSub, reduceIte, Nat.lt_irrefl, Nat.zero_ne_one, Nat.one_ne_zero, Nat.zero_add, List.nil_append, List.cons_append, Option.toList_some, Option.toList_none, forall_const, false_implies, true_implies, false_or, or_false, true_or, or_true, i_le, i_lt, i_eq, i_eq0, i_lt0, i_0le, i_0lt, i_le0, i_in1, i_cl, nI_add, pk_mul, pk_sub, i_div, i_rem, i_sh1, i_bit, i_or, i_and, i_andn, nt_le, nf_le, nt_lt, nf_lt, nt_eq, nf_eq, not_true_eq_false, and_self, and_false, false_and, eq_self, Bool.toNat_true, Bool.toNat_false, i_bool, i_bool1, Bool.false_eq_true, Bool.true_eq_false, reduceCtorEq, i_neg1, i_neg2, i_neg3, i_neg4, i_neg5, i_neg6, i_neg7, i_neg8, i_neg9, i_nega, i_negb, i_negc, i_max2, i_min2])
          exact l_refP ht hb hh (by omega) (unl a b h ha rfl hb rfl (by omega) hh) (ok a b h ha rfl hb rfl (by omega) hh) h 0 (by omega) rfl
theorem np_bad {i r : Int32} (hm : YrM S 40 Y) (hn5 : Y 6 0 ≤ 5) (hb : inB i (Y 6 0) = false ∨ inB r 6 = false) (q : P (some (aI (-nI 1))) S) : wpM (d + 4) mX9_needPairs [aR 8 0, aI i, aI r] S P := by
  cases hi : inB i (Y 6 0)
  · refine x_entry (ls2 := [aR 8 0, aI i, aI r, aU, aU]) (Nat.le_of_ble_eq_true rfl) pl_9 rfl (Nat.le_of_ble_eq_true rfl) ?_
    try simp (disch := omega) only [no0, no1, nz1, nz2, nz3, nz4, nz5, nz7, nz8, Classical.not_not, bz0, bz1, wi_nil, ld_0, ld_s, isIv_I, isLv_L, isRv_R, true_and, and_true, lset_0, lset_1, lset_s, avw_I, avw_L, avw_R, clr_cons, clr_nil, kst_0, kst_1, kstL_0, kstL_1, addk_I, pA_0, pA_s, pD_0, pD_s, wid_nil, wid_cons, rcv_c, putv_I, putv_L, List.length_cons, List.length_nil, List.set_cons_zero, List.set_cons_succ, not_false_eq_true, Nat.reduceMod, Nat.reduceDiv, Nat.reduceEqDiff, Nat.reduceLT, Nat.reduceLeDiff, Nat.reduceAdd, Nat.reduceSub, reduceIte, Nat.lt_irrefl, Nat.zero_ne_one, Nat.one_ne_zero, Nat.zero_add, List.nil_append, List.cons_append, Option.toList_some, Option.toList_none, forall_const, false_implies, true_implies, false_or, or_false, true_or, or_true, i_le, i_lt, i_eq, i_eq0, i_lt0, i_0le, i_0lt, i_le0, i_in1, i_cl, nI_add, pk_mul, pk_sub, i_div, i_rem, i_sh1, i_bit, i_or, i_and, i_andn, nt_le, nf_le, nt_lt, nf_lt, nt_eq, nf_eq, not_true_eq_false, and_self, and_false, false_and, eq_self, Bool.toNat_true, Bool.toNat_false, i_bool, i_bool1, Bool.false_eq_true, Bool.true_eq_false, reduceCtorEq, i_neg1, i_neg2, i_neg3, i_neg4, i_neg5, i_neg6, i_neg7, i_neg8, i_neg9, i_nega, i_negb, i_negc, i_max2, i_min2, wi_nil]
    repeat (
      first
      | refine s_X9_needPairs_0 ?_
      | refine s_X9_needPairs_5 ?_
      | refine s_X9_needPairs_12 ?_
      | refine s_X9_needPairs_15 ?_
      | refine s_X9_needPairs_17 ?_
      | refine s_X9_needPairs_31 ?_
      | refine s_X9_needPairs_32 ?_
      | refine s_X9_needPairs_48 ?_
      | refine s_X9_needPairs_49 ?_
      | refine s_X9_needPairs_76 ?_
      | refine s_X9_needPairs_82 ?_
      | refine s_X9_needPairs_94 ?_
      | refine s_X9_needPairs_100 ?_
      | refine s_X9_needPairs_107 ?_
      | refine s_X9_needPairs_108 ?_
      | refine s_X9_needPairs_115 ?_
      | refine s_X9_needPairs_123 ?_
      | refine s_X9_needPairs_128 ?_
      simp (disch := omega) only [B_X9_needPairs_0, wi_aload_n, wi_iload_n, wi_invokevirtual, cnt_8, B_X9_needPairs_5, wi_if_eq, wi_invokestatic, B_X9_needPairs_12, wi_if_ne, B_X9_needPairs_15, wi_iconst, wi_ireturn, B_X9_needPairs_17, wi_getfield, fldv_8_5, fds_8_5, wi_iaload, wi_if_ge, cnt_31, aTy_31, aLn_31, arr_31, B_X9_needPairs_31, B_X9_needPairs_32, wi_irem, B_X9_needPairs_48, B_X9_needPairs_49, wi_istore_n, wi_istore, B_X9_needPairs_54, wi_iload, wi_icmp_ge, B_X9_needPairs_76, wi_bipush, B_X9_needPairs_82, wi_iadd, B_X9_needPairs_94, B_X9_needPairs_100, wi_goto, B_X9_needPairs_107, B_X9_needPairs_108, wi_iinc, B_X9_needPairs_115, B_X9_needPairs_123, B_X9_needPairs_128, no0, no1, nz1, nz2, nz3, nz4, nz5, nz7, nz8, Classical.not_not, bz0, bz1, wi_nil, ld_0, ld_s, isIv_I, isLv_L, isRv_R, true_and, and_true, lset_0, lset_1, lset_s, avw_I, avw_L, avw_R, clr_cons, clr_nil, kst_0, kst_1, kstL_0, kstL_1, addk_I, pA_0, pA_s, pD_0, pD_s, wid_nil, wid_cons, rcv_c, putv_I, putv_L, List.length_cons, List.length_nil, List.set_cons_zero, List.set_cons_succ, not_false_eq_true, Nat.reduceMod, Nat.reduceDiv, Nat.reduceEqDiff, Nat.reduceLT, Nat.reduceLeDiff, Nat.reduceAdd, Nat.reduceSub, reduceIte, Nat.lt_irrefl, Nat.zero_ne_one, Nat.one_ne_zero, Nat.zero_add, List.nil_append, List.cons_append, Option.toList_some, Option.toList_none, forall_const, false_implies, true_implies, false_or, or_false, true_or, or_true, i_le, i_lt, i_eq, i_eq0, i_lt0, i_0le, i_0lt, i_le0, i_in1, i_cl, nI_add, pk_mul, pk_sub, i_div, i_rem, i_sh1, i_bit, i_or, i_and, i_andn, nt_le, nf_le, nt_lt, nf_lt, nt_eq, nf_eq, not_true_eq_false, and_self, and_false, false_and, eq_self, Bool.toNat_true, Bool.toNat_false, i_bool, i_bool1, Bool.false_eq_true, Bool.true_eq_false, reduceCtorEq, i_neg1, i_neg2, i_neg3, i_neg4, i_neg5, i_neg6, i_neg7, i_neg8, i_neg9, i_nega, i_negb, i_negc, i_max2, i_min2])
    refine c_mDeed hm hn5 ?_
    try simp (disch := omega) only [no0, no1, nz1, nz2, nz3, nz4, nz5, nz7, nz8, Classical.not_not, bz0, bz1, wi_nil, ld_0, ld_s, isIv_I, isLv_L, isRv_R, true_and, and_true, lset_0, lset_1, lset_s, avw_I, avw_L, avw_R, clr_cons, clr_nil, kst_0, kst_1, kstL_0, kstL_1, addk_I, pA_0, pA_s, pD_0, pD_s, wid_nil, wid_cons, rcv_c, putv_I, putv_L, List.length_cons, List.length_nil, List.set_cons_zero, List.set_cons_succ, not_false_eq_true, Nat.reduceMod, Nat.reduceDiv, Nat.reduceEqDiff, Nat.reduceLT, Nat.reduceLeDiff, Nat.reduceAdd, Nat.reduceSub, reduceIte, Nat.lt_irrefl, Nat.zero_ne_one, Nat.one_ne_zero, Nat.zero_add, List.nil_append, List.cons_append, Option.toList_some, Option.toList_none, forall_const, false_implies, true_implies, false_or, or_false, true_or, or_true, i_le, i_lt, i_eq, i_eq0, i_lt0, i_0le, i_0lt, i_le0, i_in1, i_cl, nI_add, pk_mul, pk_sub, i_div, i_rem, i_sh1, i_bit, i_or, i_and, i_andn, nt_le, nf_le, nt_lt, nf_lt, nt_eq, nf_eq, not_true_eq_false, and_self, and_false, false_and, eq_self, Bool.toNat_true, Bool.toNat_false, i_bool, i_bool1, Bool.false_eq_true, Bool.true_eq_false, reduceCtorEq, i_neg1, i_neg2, i_neg3, i_neg4, i_neg5, i_neg6, i_neg7, i_neg8, i_neg9, i_nega, i_negb, i_negc, i_max2, i_min2, hi, wi_nil]
    repeat (
      first
      | refine s_X9_needPairs_0 ?_
      | refine s_X9_needPairs_5 ?_
      | refine s_X9_needPairs_12 ?_
      | refine s_X9_needPairs_15 ?_
      | refine s_X9_needPairs_17 ?_
      | refine s_X9_needPairs_31 ?_
      | refine s_X9_needPairs_32 ?_
      | refine s_X9_needPairs_48 ?_
      | refine s_X9_needPairs_49 ?_
      | refine s_X9_needPairs_76 ?_
      | refine s_X9_needPairs_82 ?_
      | refine s_X9_needPairs_94 ?_
      | refine s_X9_needPairs_100 ?_
      | refine s_X9_needPairs_107 ?_
      | refine s_X9_needPairs_108 ?_
      | refine s_X9_needPairs_115 ?_
      | refine s_X9_needPairs_123 ?_
      | refine s_X9_needPairs_128 ?_
      simp (disch := omega) only [B_X9_needPairs_0, wi_aload_n, wi_iload_n, wi_invokevirtual, cnt_8, B_X9_needPairs_5, wi_if_eq, wi_invokestatic, B_X9_needPairs_12, wi_if_ne, B_X9_needPairs_15, wi_iconst, wi_ireturn, B_X9_needPairs_17, wi_getfield, fldv_8_5, fds_8_5, wi_iaload, wi_if_ge, cnt_31, aTy_31, aLn_31, arr_31, B_X9_needPairs_31, B_X9_needPairs_32, wi_irem, B_X9_needPairs_48, B_X9_needPairs_49, wi_istore_n, wi_istore, B_X9_needPairs_54, wi_iload, wi_icmp_ge, B_X9_needPairs_76, wi_bipush, B_X9_needPairs_82, wi_iadd, B_X9_needPairs_94, B_X9_needPairs_100, wi_goto, B_X9_needPairs_107, B_X9_needPairs_108, wi_iinc, B_X9_needPairs_115, B_X9_needPairs_123, B_X9_needPairs_128, no0, no1, nz1, nz2, nz3, nz4, nz5, nz7, nz8, Classical.not_not, bz0, bz1, wi_nil, ld_0, ld_s, isIv_I, isLv_L, isRv_R, true_and, and_true, lset_0, lset_1, lset_s, avw_I, avw_L, avw_R, clr_cons, clr_nil, kst_0, kst_1, kstL_0, kstL_1, addk_I, pA_0, pA_s, pD_0, pD_s, wid_nil, wid_cons, rcv_c, putv_I, putv_L, List.length_cons, List.length_nil, List.set_cons_zero, List.set_cons_succ, not_false_eq_true, Nat.reduceMod, Nat.reduceDiv, Nat.reduceEqDiff, Nat.reduceLT, Nat.reduceLeDiff, Nat.reduceAdd, Nat.reduceSub, reduceIte, Nat.lt_irrefl, Nat.zero_ne_one, Nat.one_ne_zero, Nat.zero_add, List.nil_append, List.cons_append, Option.toList_some, Option.toList_none, forall_const, false_implies, true_implies, false_or, or_false, true_or, or_true, i_le, i_lt, i_eq, i_eq0, i_lt0, i_0le, i_0lt, i_le0, i_in1, i_cl, nI_add, pk_mul, pk_sub, i_div, i_rem, i_sh1, i_bit, i_or, i_and, i_andn, nt_le, nf_le, nt_lt, nf_lt, nt_eq, nf_eq, not_true_eq_false, and_self, and_false, false_and, eq_self, Bool.toNat_true, Bool.toNat_false, i_bool, i_bool1, Bool.false_eq_true, Bool.true_eq_false, reduceCtorEq, i_neg1, i_neg2, i_neg3, i_neg4, i_neg5, i_neg6, i_neg7, i_neg8, i_neg9, i_nega, i_negb, i_negc, i_max2, i_min2, hi])
    exact q
  · have hr : inB r 6 = false := by
      rcases hb with a | a
      · rw [hi] at a; cases a
      · exact a
    refine x_entry (ls2 := [aR 8 0, aI i, aI r, aU, aU]) (Nat.le_of_ble_eq_true rfl) pl_9 rfl (Nat.le_of_ble_eq_true rfl) ?_
    try simp (disch := omega) only [no0, no1, nz1, nz2, nz3, nz4, nz5, nz7, nz8, Classical.not_not, bz0, bz1, wi_nil, ld_0, ld_s, isIv_I, isLv_L, isRv_R, true_and, and_true, lset_0, lset_1, lset_s, avw_I, avw_L, avw_R, clr_cons, clr_nil, kst_0, kst_1, kstL_0, kstL_1, addk_I, pA_0, pA_s, pD_0, pD_s, wid_nil, wid_cons, rcv_c, putv_I, putv_L, List.length_cons, List.length_nil, List.set_cons_zero, List.set_cons_succ, not_false_eq_true, Nat.reduceMod, Nat.reduceDiv, Nat.reduceEqDiff, Nat.reduceLT, Nat.reduceLeDiff, Nat.reduceAdd, Nat.reduceSub, reduceIte, Nat.lt_irrefl, Nat.zero_ne_one, Nat.one_ne_zero, Nat.zero_add, List.nil_append, List.cons_append, Option.toList_some, Option.toList_none, forall_const, false_implies, true_implies, false_or, or_false, true_or, or_true, i_le, i_lt, i_eq, i_eq0, i_lt0, i_0le, i_0lt, i_le0, i_in1, i_cl, nI_add, pk_mul, pk_sub, i_div, i_rem, i_sh1, i_bit, i_or, i_and, i_andn, nt_le, nf_le, nt_lt, nf_lt, nt_eq, nf_eq, not_true_eq_false, and_self, and_false, false_and, eq_self, Bool.toNat_true, Bool.toNat_false, i_bool, i_bool1, Bool.false_eq_true, Bool.true_eq_false, reduceCtorEq, i_neg1, i_neg2, i_neg3, i_neg4, i_neg5, i_neg6, i_neg7, i_neg8, i_neg9, i_nega, i_negb, i_negc, i_max2, i_min2, wi_nil]
    repeat (
      first
      | refine s_X9_needPairs_0 ?_
      | refine s_X9_needPairs_5 ?_
      | refine s_X9_needPairs_12 ?_
      | refine s_X9_needPairs_15 ?_
      | refine s_X9_needPairs_17 ?_
      | refine s_X9_needPairs_31 ?_
      | refine s_X9_needPairs_32 ?_
      | refine s_X9_needPairs_48 ?_
      | refine s_X9_needPairs_49 ?_
      | refine s_X9_needPairs_76 ?_
      | refine s_X9_needPairs_82 ?_
      | refine s_X9_needPairs_94 ?_
      | refine s_X9_needPairs_100 ?_
      | refine s_X9_needPairs_107 ?_
      | refine s_X9_needPairs_108 ?_
      | refine s_X9_needPairs_115 ?_
      | refine s_X9_needPairs_123 ?_
      | refine s_X9_needPairs_128 ?_
      simp (disch := omega) only [B_X9_needPairs_0, wi_aload_n, wi_iload_n, wi_invokevirtual, cnt_8, B_X9_needPairs_5, wi_if_eq, wi_invokestatic, B_X9_needPairs_12, wi_if_ne, B_X9_needPairs_15, wi_iconst, wi_ireturn, B_X9_needPairs_17, wi_getfield, fldv_8_5, fds_8_5, wi_iaload, wi_if_ge, cnt_31, aTy_31, aLn_31, arr_31, B_X9_needPairs_31, B_X9_needPairs_32, wi_irem, B_X9_needPairs_48, B_X9_needPairs_49, wi_istore_n, wi_istore, B_X9_needPairs_54, wi_iload, wi_icmp_ge, B_X9_needPairs_76, wi_bipush, B_X9_needPairs_82, wi_iadd, B_X9_needPairs_94, B_X9_needPairs_100, wi_goto, B_X9_needPairs_107, B_X9_needPairs_108, wi_iinc, B_X9_needPairs_115, B_X9_needPairs_123, B_X9_needPairs_128, no0, no1, nz1, nz2, nz3, nz4, nz5, nz7, nz8, Classical.not_not, bz0, bz1, wi_nil, ld_0, ld_s, isIv_I, isLv_L, isRv_R, true_and, and_true, lset_0, lset_1, lset_s, avw_I, avw_L, avw_R, clr_cons, clr_nil, kst_0, kst_1, kstL_0, kstL_1, addk_I, pA_0, pA_s, pD_0, pD_s, wid_nil, wid_cons, rcv_c, putv_I, putv_L, List.length_cons, List.length_nil, List.set_cons_zero, List.set_cons_succ, not_false_eq_true, Nat.reduceMod, Nat.reduceDiv, Nat.reduceEqDiff, Nat.reduceLT, Nat.reduceLeDiff, Nat.reduceAdd, Nat.reduceSub, reduceIte, Nat.lt_irrefl, Nat.zero_ne_one, Nat.one_ne_zero, Nat.zero_add, List.nil_append, List.cons_append, Option.toList_some, Option.toList_none, forall_const, false_implies, true_implies, false_or, or_false, true_or, or_true, i_le, i_lt, i_eq, i_eq0, i_lt0, i_0le, i_0lt, i_le0, i_in1, i_cl, nI_add, pk_mul, pk_sub, i_div, i_rem, i_sh1, i_bit, i_or, i_and, i_andn, nt_le, nf_le, nt_lt, nf_lt, nt_eq, nf_eq, not_true_eq_false, and_self, and_false, false_and, eq_self, Bool.toNat_true, Bool.toNat_false, i_bool, i_bool1, Bool.false_eq_true, Bool.true_eq_false, reduceCtorEq, i_neg1, i_neg2, i_neg3, i_neg4, i_neg5, i_neg6, i_neg7, i_neg8, i_neg9, i_nega, i_negb, i_negc, i_max2, i_min2])
    refine c_mDeed hm hn5 ?_
    try simp (disch := omega) only [no0, no1, nz1, nz2, nz3, nz4, nz5, nz7, nz8, Classical.not_not, bz0, bz1, wi_nil, ld_0, ld_s, isIv_I, isLv_L, isRv_R, true_and, and_true, lset_0, lset_1, lset_s, avw_I, avw_L, avw_R, clr_cons, clr_nil, kst_0, kst_1, kstL_0, kstL_1, addk_I, pA_0, pA_s, pD_0, pD_s, wid_nil, wid_cons, rcv_c, putv_I, putv_L, List.length_cons, List.length_nil, List.set_cons_zero, List.set_cons_succ, not_false_eq_true, Nat.reduceMod, Nat.reduceDiv, Nat.reduceEqDiff, Nat.reduceLT, Nat.reduceLeDiff, Nat.reduceAdd, Nat.reduceSub, reduceIte, Nat.lt_irrefl, Nat.zero_ne_one, Nat.one_ne_zero, Nat.zero_add, List.nil_append, List.cons_append, Option.toList_some, Option.toList_none, forall_const, false_implies, true_implies, false_or, or_false, true_or, or_true, i_le, i_lt, i_eq, i_eq0, i_lt0, i_0le, i_0lt, i_le0, i_in1, i_cl, nI_add, pk_mul, pk_sub, i_div, i_rem, i_sh1, i_bit, i_or, i_and, i_andn, nt_le, nf_le, nt_lt, nf_lt, nt_eq, nf_eq, not_true_eq_false, and_self, and_false, false_and, eq_self, Bool.toNat_true, Bool.toNat_false, i_bool, i_bool1, Bool.false_eq_true, Bool.true_eq_false, reduceCtorEq, i_neg1, i_neg2, i_neg3, i_neg4, i_neg5, i_neg6, i_neg7, i_neg8, i_neg9, i_nega, i_negb, i_negc, i_max2, i_min2, hi, wi_nil]
    repeat (
      first
      | refine s_X9_needPairs_0 ?_
      | refine s_X9_needPairs_5 ?_
      | refine s_X9_needPairs_12 ?_
      | refine s_X9_needPairs_15 ?_
      | refine s_X9_needPairs_17 ?_
      | refine s_X9_needPairs_31 ?_
      | refine s_X9_needPairs_32 ?_
      | refine s_X9_needPairs_48 ?_
      | refine s_X9_needPairs_49 ?_
      | refine s_X9_needPairs_76 ?_
      | refine s_X9_needPairs_82 ?_
      | refine s_X9_needPairs_94 ?_
      | refine s_X9_needPairs_100 ?_
      | refine s_X9_needPairs_107 ?_
      | refine s_X9_needPairs_108 ?_
      | refine s_X9_needPairs_115 ?_
      | refine s_X9_needPairs_123 ?_
      | refine s_X9_needPairs_128 ?_
      simp (disch := omega) only [B_X9_needPairs_0, wi_aload_n, wi_iload_n, wi_invokevirtual, cnt_8, B_X9_needPairs_5, wi_if_eq, wi_invokestatic, B_X9_needPairs_12, wi_if_ne, B_X9_needPairs_15, wi_iconst, wi_ireturn, B_X9_needPairs_17, wi_getfield, fldv_8_5, fds_8_5, wi_iaload, wi_if_ge, cnt_31, aTy_31, aLn_31, arr_31, B_X9_needPairs_31, B_X9_needPairs_32, wi_irem, B_X9_needPairs_48, B_X9_needPairs_49, wi_istore_n, wi_istore, B_X9_needPairs_54, wi_iload, wi_icmp_ge, B_X9_needPairs_76, wi_bipush, B_X9_needPairs_82, wi_iadd, B_X9_needPairs_94, B_X9_needPairs_100, wi_goto, B_X9_needPairs_107, B_X9_needPairs_108, wi_iinc, B_X9_needPairs_115, B_X9_needPairs_123, B_X9_needPairs_128, no0, no1, nz1, nz2, nz3, nz4, nz5, nz7, nz8, Classical.not_not, bz0, bz1, wi_nil, ld_0, ld_s, isIv_I, isLv_L, isRv_R, true_and, and_true, lset_0, lset_1, lset_s, avw_I, avw_L, avw_R, clr_cons, clr_nil, kst_0, kst_1, kstL_0, kstL_1, addk_I, pA_0, pA_s, pD_0, pD_s, wid_nil, wid_cons, rcv_c, putv_I, putv_L, List.length_cons, List.length_nil, List.set_cons_zero, List.set_cons_succ, not_false_eq_true, Nat.reduceMod, Nat.reduceDiv, Nat.reduceEqDiff, Nat.reduceLT, Nat.reduceLeDiff, Nat.reduceAdd, Nat.reduceSub, reduceIte, Nat.lt_irrefl, Nat.zero_ne_one, Nat.one_ne_zero, Nat.zero_add, List.nil_append, List.cons_append, Option.toList_some, Option.toList_none, forall_const, false_implies, true_implies, false_or, or_false, true_or, or_true, i_le, i_lt, i_eq, i_eq0, i_lt0, i_0le, i_0lt, i_le0, i_in1, i_cl, nI_add, pk_mul, pk_sub, i_div, i_rem, i_sh1, i_bit, i_or, i_and, i_andn, nt_le, nf_le, nt_lt, nf_lt, nt_eq, nf_eq, not_true_eq_false, and_self, and_false, false_and, eq_self, Bool.toNat_true, Bool.toNat_false, i_bool, i_bool1, Bool.false_eq_true, Bool.true_eq_false, reduceCtorEq, i_neg1, i_neg2, i_neg3, i_neg4, i_neg5, i_neg6, i_neg7, i_neg8, i_neg9, i_nega, i_negb, i_negc, i_max2, i_min2, hi])
    refine c_mRow ?_
    try simp (disch := omega) only [no0, no1, nz1, nz2, nz3, nz4, nz5, nz7, nz8, Classical.not_not, bz0, bz1, wi_nil, ld_0, ld_s, isIv_I, isLv_L, isRv_R, true_and, and_true, lset_0, lset_1, lset_s, avw_I, avw_L, avw_R, clr_cons, clr_nil, kst_0, kst_1, kstL_0, kstL_1, addk_I, pA_0, pA_s, pD_0, pD_s, wid_nil, wid_cons, rcv_c, putv_I, putv_L, List.length_cons, List.length_nil, List.set_cons_zero, List.set_cons_succ, not_false_eq_true, Nat.reduceMod, Nat.reduceDiv, Nat.reduceEqDiff, Nat.reduceLT, Nat.reduceLeDiff, Nat.reduceAdd, Nat.reduceSub, reduceIte, Nat.lt_irrefl, Nat.zero_ne_one, Nat.one_ne_zero, Nat.zero_add, List.nil_append, List.cons_append, Option.toList_some, Option.toList_none, forall_const, false_implies, true_implies, false_or, or_false, true_or, or_true, i_le, i_lt, i_eq, i_eq0, i_lt0, i_0le, i_0lt, i_le0, i_in1, i_cl, nI_add, pk_mul, pk_sub, i_div, i_rem, i_sh1, i_bit, i_or, i_and, i_andn, nt_le, nf_le, nt_lt, nf_lt, nt_eq, nf_eq, not_true_eq_false, and_self, and_false, false_and, eq_self, Bool.toNat_true, Bool.toNat_false, i_bool, i_bool1, Bool.false_eq_true, Bool.true_eq_false, reduceCtorEq, i_neg1, i_neg2, i_neg3, i_neg4, i_neg5, i_neg6, i_neg7, i_neg8, i_neg9, i_nega, i_negb, i_negc, i_max2, i_min2, hr, wi_nil]
    repeat (
      first
      | refine s_X9_needPairs_0 ?_
      | refine s_X9_needPairs_5 ?_
      | refine s_X9_needPairs_12 ?_
      | refine s_X9_needPairs_15 ?_
      | refine s_X9_needPairs_17 ?_
      | refine s_X9_needPairs_31 ?_
      | refine s_X9_needPairs_32 ?_
      | refine s_X9_needPairs_48 ?_
      | refine s_X9_needPairs_49 ?_
      | refine s_X9_needPairs_76 ?_
      | refine s_X9_needPairs_82 ?_
      | refine s_X9_needPairs_94 ?_
      | refine s_X9_needPairs_100 ?_
      | refine s_X9_needPairs_107 ?_
      | refine s_X9_needPairs_108 ?_
      | refine s_X9_needPairs_115 ?_
      | refine s_X9_needPairs_123 ?_
      | refine s_X9_needPairs_128 ?_
      simp (disch := omega) only [B_X9_needPairs_0, wi_aload_n, wi_iload_n, wi_invokevirtual, cnt_8, B_X9_needPairs_5, wi_if_eq, wi_invokestatic, B_X9_needPairs_12, wi_if_ne, B_X9_needPairs_15, wi_iconst, wi_ireturn, B_X9_needPairs_17, wi_getfield, fldv_8_5, fds_8_5, wi_iaload, wi_if_ge, cnt_31, aTy_31, aLn_31, arr_31, B_X9_needPairs_31, B_X9_needPairs_32, wi_irem, B_X9_needPairs_48, B_X9_needPairs_49, wi_istore_n, wi_istore, B_X9_needPairs_54, wi_iload, wi_icmp_ge, B_X9_needPairs_76, wi_bipush, B_X9_needPairs_82, wi_iadd, B_X9_needPairs_94, B_X9_needPairs_100, wi_goto, B_X9_needPairs_107, B_X9_needPairs_108, wi_iinc, B_X9_needPairs_115, B_X9_needPairs_123, B_X9_needPairs_128, no0, no1, nz1, nz2, nz3, nz4, nz5, nz7, nz8, Classical.not_not, bz0, bz1, wi_nil, ld_0, ld_s, isIv_I, isLv_L, isRv_R, true_and, and_true, lset_0, lset_1, lset_s, avw_I, avw_L, avw_R, clr_cons, clr_nil, kst_0, kst_1, kstL_0, kstL_1, addk_I, pA_0, pA_s, pD_0, pD_s, wid_nil, wid_cons, rcv_c, putv_I, putv_L, List.length_cons, List.length_nil, List.set_cons_zero, List.set_cons_succ, not_false_eq_true, Nat.reduceMod, Nat.reduceDiv, Nat.reduceEqDiff, Nat.reduceLT, Nat.reduceLeDiff, Nat.reduceAdd, Nat.reduceSub, reduceIte, Nat.lt_irrefl, Nat.zero_ne_one, Nat.one_ne_zero, Nat.zero_add, List.nil_append, List.cons_append, Option.toList_some, Option.toList_none, forall_const, false_implies, true_implies, false_or, or_false, true_or, or_true, i_le, i_lt, i_eq, i_eq0, i_lt0, i_0le, i_0lt, i_le0, i_in1, i_cl, nI_add, pk_mul, pk_sub, i_div, i_rem, i_sh1, i_bit, i_or, i_and, i_andn, nt_le, nf_le, nt_lt, nf_lt, nt_eq, nf_eq, not_true_eq_false, and_self, and_false, false_and, eq_self, Bool.toNat_true, Bool.toNat_false, i_bool, i_bool1, Bool.false_eq_true, Bool.true_eq_false, reduceCtorEq, i_neg1, i_neg2, i_neg3, i_neg4, i_neg5, i_neg6, i_neg7, i_neg8, i_neg9, i_nega, i_negb, i_negc, i_max2, i_min2, hr])
    exact q
theorem np_miss {a b : Nat} (hm : YrM S 40 Y) (hn5 : Y 6 0 ≤ 5) (ht : Tb S 31 32 6 40 rs rc) (ha : a < Y 6 0) (hb : b < 6) (hz : rs b = 0) (q : P (some (aI (-nI 3))) (mRef 1 S)) : wpM (d + 4) mX9_needPairs [aR 8 0, aI (nI a), aI (nI b)] S P := by
  have hs := (ht b hb).1
  rw [hz, sz_0] at hs
  refine x_entry (ls2 := [aR 8 0, aI (nI a), aI (nI b), aU, aU]) (Nat.le_of_ble_eq_true rfl) pl_9 rfl (Nat.le_of_ble_eq_true rfl) ?_
  try simp (disch := omega) only [no0, no1, nz1, nz2, nz3, nz4, nz5, nz7, nz8, Classical.not_not, bz0, bz1, wi_nil, ld_0, ld_s, isIv_I, isLv_L, isRv_R, true_and, and_true, lset_0, lset_1, lset_s, avw_I, avw_L, avw_R, clr_cons, clr_nil, kst_0, kst_1, kstL_0, kstL_1, addk_I, pA_0, pA_s, pD_0, pD_s, wid_nil, wid_cons, rcv_c, putv_I, putv_L, List.length_cons, List.length_nil, List.set_cons_zero, List.set_cons_succ, not_false_eq_true, Nat.reduceMod, Nat.reduceDiv, Nat.reduceEqDiff, Nat.reduceLT, Nat.reduceLeDiff, Nat.reduceAdd, Nat.reduceSub, reduceIte, Nat.lt_irrefl, Nat.zero_ne_one, Nat.one_ne_zero, Nat.zero_add, List.nil_append, List.cons_append, Option.toList_some, Option.toList_none, forall_const, false_implies, true_implies, false_or, or_false, true_or, or_true, i_le, i_lt, i_eq, i_eq0, i_lt0, i_0le, i_0lt, i_le0, i_in1, i_cl, nI_add, pk_mul, pk_sub, i_div, i_rem, i_sh1, i_bit, i_or, i_and, i_andn, nt_le, nf_le, nt_lt, nf_lt, nt_eq, nf_eq, not_true_eq_false, and_self, and_false, false_and, eq_self, Bool.toNat_true, Bool.toNat_false, i_bool, i_bool1, Bool.false_eq_true, Bool.true_eq_false, reduceCtorEq, i_neg1, i_neg2, i_neg3, i_neg4, i_neg5, i_neg6, i_neg7, i_neg8, i_neg9, i_nega, i_negb, i_negc, i_max2, i_min2, wi_nil]
  repeat (
    first
    | refine s_X9_needPairs_0 ?_
    | refine s_X9_needPairs_5 ?_
    | refine s_X9_needPairs_12 ?_
    | refine s_X9_needPairs_15 ?_
    | refine s_X9_needPairs_17 ?_
    | refine s_X9_needPairs_31 ?_
    | refine s_X9_needPairs_32 ?_
    | refine s_X9_needPairs_48 ?_
    | refine s_X9_needPairs_49 ?_
    | refine s_X9_needPairs_76 ?_
    | refine s_X9_needPairs_82 ?_
    | refine s_X9_needPairs_94 ?_
    | refine s_X9_needPairs_100 ?_
    | refine s_X9_needPairs_107 ?_
    | refine s_X9_needPairs_108 ?_
    | refine s_X9_needPairs_115 ?_
    | refine s_X9_needPairs_123 ?_
    | refine s_X9_needPairs_128 ?_
    simp (disch := omega) only [B_X9_needPairs_0, wi_aload_n, wi_iload_n, wi_invokevirtual, cnt_8, B_X9_needPairs_5, wi_if_eq, wi_invokestatic, B_X9_needPairs_12, wi_if_ne, B_X9_needPairs_15, wi_iconst, wi_ireturn, B_X9_needPairs_17, wi_getfield, fldv_8_5, fds_8_5, wi_iaload, wi_if_ge, cnt_31, aTy_31, aLn_31, arr_31, B_X9_needPairs_31, B_X9_needPairs_32, wi_irem, B_X9_needPairs_48, B_X9_needPairs_49, wi_istore_n, wi_istore, B_X9_needPairs_54, wi_iload, wi_icmp_ge, B_X9_needPairs_76, wi_bipush, B_X9_needPairs_82, wi_iadd, B_X9_needPairs_94, B_X9_needPairs_100, wi_goto, B_X9_needPairs_107, B_X9_needPairs_108, wi_iinc, B_X9_needPairs_115, B_X9_needPairs_123, B_X9_needPairs_128, no0, no1, nz1, nz2, nz3, nz4, nz5, nz7, nz8, Classical.not_not, bz0, bz1, wi_nil, ld_0, ld_s, isIv_I, isLv_L, isRv_R, true_and, and_true, lset_0, lset_1, lset_s, avw_I, avw_L, avw_R, clr_cons, clr_nil, kst_0, kst_1, kstL_0, kstL_1, addk_I, pA_0, pA_s, pD_0, pD_s, wid_nil, wid_cons, rcv_c, putv_I, putv_L, List.length_cons, List.length_nil, List.set_cons_zero, List.set_cons_succ, not_false_eq_true, Nat.reduceMod, Nat.reduceDiv, Nat.reduceEqDiff, Nat.reduceLT, Nat.reduceLeDiff, Nat.reduceAdd, Nat.reduceSub, reduceIte, Nat.lt_irrefl, Nat.zero_ne_one, Nat.one_ne_zero, Nat.zero_add, List.nil_append, List.cons_append, Option.toList_some, Option.toList_none, forall_const, false_implies, true_implies, false_or, or_false, true_or, or_true, i_le, i_lt, i_eq, i_eq0, i_lt0, i_0le, i_0lt, i_le0, i_in1, i_cl, nI_add, pk_mul, pk_sub, i_div, i_rem, i_sh1, i_bit, i_or, i_and, i_andn, nt_le, nf_le, nt_lt, nf_lt, nt_eq, nf_eq, not_true_eq_false, and_self, and_false, false_and, eq_self, Bool.toNat_true, Bool.toNat_false, i_bool, i_bool1, Bool.false_eq_true, Bool.true_eq_false, reduceCtorEq, i_neg1, i_neg2, i_neg3, i_neg4, i_neg5, i_neg6, i_neg7, i_neg8, i_neg9, i_nega, i_negb, i_negc, i_max2, i_min2])
  refine c_mDeed hm hn5 ?_
  try simp (disch := omega) only [no0, no1, nz1, nz2, nz3, nz4, nz5, nz7, nz8, Classical.not_not, bz0, bz1, wi_nil, ld_0, ld_s, isIv_I, isLv_L, isRv_R, true_and, and_true, lset_0, lset_1, lset_s, avw_I, avw_L, avw_R, clr_cons, clr_nil, kst_0, kst_1, kstL_0, kstL_1, addk_I, pA_0, pA_s, pD_0, pD_s, wid_nil, wid_cons, rcv_c, putv_I, putv_L, List.length_cons, List.length_nil, List.set_cons_zero, List.set_cons_succ, not_false_eq_true, Nat.reduceMod, Nat.reduceDiv, Nat.reduceEqDiff, Nat.reduceLT, Nat.reduceLeDiff, Nat.reduceAdd, Nat.reduceSub, reduceIte, Nat.lt_irrefl, Nat.zero_ne_one, Nat.one_ne_zero, Nat.zero_add, List.nil_append, List.cons_append, Option.toList_some, Option.toList_none, forall_const, false_implies, true_implies, false_or, or_false, true_or, or_true, i_le, i_lt, i_eq, i_eq0, i_lt0, i_0le, i_0lt, i_le0, i_in1, i_cl, nI_add, pk_mul, pk_sub, i_div, i_rem, i_sh1, i_bit, i_or, i_and, i_andn, nt_le, nf_le, nt_lt, nf_lt, nt_eq, nf_eq, not_true_eq_false, and_self, and_false, false_and, eq_self, Bool.toNat_true, Bool.toNat_false, i_bool, i_bool1, Bool.false_eq_true, Bool.true_eq_false, reduceCtorEq, i_neg1, i_neg2, i_neg3, i_neg4, i_neg5, i_neg6, i_neg7, i_neg8, i_neg9, i_nega, i_negb, i_negc, i_max2, i_min2, (inb_t ha (by omega)), wi_nil]
  repeat (
    first
    | refine s_X9_needPairs_0 ?_
    | refine s_X9_needPairs_5 ?_
    | refine s_X9_needPairs_12 ?_
    | refine s_X9_needPairs_15 ?_
    | refine s_X9_needPairs_17 ?_
    | refine s_X9_needPairs_31 ?_
    | refine s_X9_needPairs_32 ?_
    | refine s_X9_needPairs_48 ?_
    | refine s_X9_needPairs_49 ?_
    | refine s_X9_needPairs_76 ?_
    | refine s_X9_needPairs_82 ?_
    | refine s_X9_needPairs_94 ?_
    | refine s_X9_needPairs_100 ?_
    | refine s_X9_needPairs_107 ?_
    | refine s_X9_needPairs_108 ?_
    | refine s_X9_needPairs_115 ?_
    | refine s_X9_needPairs_123 ?_
    | refine s_X9_needPairs_128 ?_
    simp (disch := omega) only [B_X9_needPairs_0, wi_aload_n, wi_iload_n, wi_invokevirtual, cnt_8, B_X9_needPairs_5, wi_if_eq, wi_invokestatic, B_X9_needPairs_12, wi_if_ne, B_X9_needPairs_15, wi_iconst, wi_ireturn, B_X9_needPairs_17, wi_getfield, fldv_8_5, fds_8_5, wi_iaload, wi_if_ge, cnt_31, aTy_31, aLn_31, arr_31, B_X9_needPairs_31, B_X9_needPairs_32, wi_irem, B_X9_needPairs_48, B_X9_needPairs_49, wi_istore_n, wi_istore, B_X9_needPairs_54, wi_iload, wi_icmp_ge, B_X9_needPairs_76, wi_bipush, B_X9_needPairs_82, wi_iadd, B_X9_needPairs_94, B_X9_needPairs_100, wi_goto, B_X9_needPairs_107, B_X9_needPairs_108, wi_iinc, B_X9_needPairs_115, B_X9_needPairs_123, B_X9_needPairs_128, no0, no1, nz1, nz2, nz3, nz4, nz5, nz7, nz8, Classical.not_not, bz0, bz1, wi_nil, ld_0, ld_s, isIv_I, isLv_L, isRv_R, true_and, and_true, lset_0, lset_1, lset_s, avw_I, avw_L, avw_R, clr_cons, clr_nil, kst_0, kst_1, kstL_0, kstL_1, addk_I, pA_0, pA_s, pD_0, pD_s, wid_nil, wid_cons, rcv_c, putv_I, putv_L, List.length_cons, List.length_nil, List.set_cons_zero, List.set_cons_succ, not_false_eq_true, Nat.reduceMod, Nat.reduceDiv, Nat.reduceEqDiff, Nat.reduceLT, Nat.reduceLeDiff, Nat.reduceAdd, Nat.reduceSub, reduceIte, Nat.lt_irrefl, Nat.zero_ne_one, Nat.one_ne_zero, Nat.zero_add, List.nil_append, List.cons_append, Option.toList_some, Option.toList_none, forall_const, false_implies, true_implies, false_or, or_false, true_or, or_true, i_le, i_lt, i_eq, i_eq0, i_lt0, i_0le, i_0lt, i_le0, i_in1, i_cl, nI_add, pk_mul, pk_sub, i_div, i_rem, i_sh1, i_bit, i_or, i_and, i_andn, nt_le, nf_le, nt_lt, nf_lt, nt_eq, nf_eq, not_true_eq_false, and_self, and_false, false_and, eq_self, Bool.toNat_true, Bool.toNat_false, i_bool, i_bool1, Bool.false_eq_true, Bool.true_eq_false, reduceCtorEq, i_neg1, i_neg2, i_neg3, i_neg4, i_neg5, i_neg6, i_neg7, i_neg8, i_neg9, i_nega, i_negb, i_negc, i_max2, i_min2, (inb_t ha (by omega))])
  refine c_mRow ?_
  try simp (disch := omega) only [no0, no1, nz1, nz2, nz3, nz4, nz5, nz7, nz8, Classical.not_not, bz0, bz1, wi_nil, ld_0, ld_s, isIv_I, isLv_L, isRv_R, true_and, and_true, lset_0, lset_1, lset_s, avw_I, avw_L, avw_R, clr_cons, clr_nil, kst_0, kst_1, kstL_0, kstL_1, addk_I, pA_0, pA_s, pD_0, pD_s, wid_nil, wid_cons, rcv_c, putv_I, putv_L, List.length_cons, List.length_nil, List.set_cons_zero, List.set_cons_succ, not_false_eq_true, Nat.reduceMod, Nat.reduceDiv, Nat.reduceEqDiff, Nat.reduceLT, Nat.reduceLeDiff, Nat.reduceAdd, Nat.reduceSub, reduceIte, Nat.lt_irrefl, Nat.zero_ne_one, Nat.one_ne_zero, Nat.zero_add, List.nil_append, List.cons_append, Option.toList_some, Option.toList_none, forall_const, false_implies, true_implies, false_or, or_false, true_or, or_true, i_le, i_lt, i_eq, i_eq0, i_lt0, i_0le, i_0lt, i_le0, i_in1, i_cl, nI_add, pk_mul, pk_sub, i_div, i_rem, i_sh1, i_bit, i_or, i_and, i_andn, nt_le, nf_le, nt_lt, nf_lt, nt_eq, nf_eq, not_true_eq_false, and_self, and_false, false_and, eq_self, Bool.toNat_true, Bool.toNat_false, i_bool, i_bool1, Bool.false_eq_true, Bool.true_eq_false, reduceCtorEq, i_neg1, i_neg2, i_neg3, i_neg4, i_neg5, i_neg6, i_neg7, i_neg8, i_neg9, i_nega, i_negb, i_negc, i_max2, i_min2, (inb_t hb (by decide)), hs, wi_nil]
  repeat (
    first
    | refine s_X9_needPairs_0 ?_
    | refine s_X9_needPairs_5 ?_
    | refine s_X9_needPairs_12 ?_
    | refine s_X9_needPairs_15 ?_
    | refine s_X9_needPairs_17 ?_
    | refine s_X9_needPairs_31 ?_
    | refine s_X9_needPairs_32 ?_
    | refine s_X9_needPairs_48 ?_
    | refine s_X9_needPairs_49 ?_
    | refine s_X9_needPairs_76 ?_
    | refine s_X9_needPairs_82 ?_
    | refine s_X9_needPairs_94 ?_
    | refine s_X9_needPairs_100 ?_
    | refine s_X9_needPairs_107 ?_
    | refine s_X9_needPairs_108 ?_
    | refine s_X9_needPairs_115 ?_
    | refine s_X9_needPairs_123 ?_
    | refine s_X9_needPairs_128 ?_
    simp (disch := omega) only [B_X9_needPairs_0, wi_aload_n, wi_iload_n, wi_invokevirtual, cnt_8, B_X9_needPairs_5, wi_if_eq, wi_invokestatic, B_X9_needPairs_12, wi_if_ne, B_X9_needPairs_15, wi_iconst, wi_ireturn, B_X9_needPairs_17, wi_getfield, fldv_8_5, fds_8_5, wi_iaload, wi_if_ge, cnt_31, aTy_31, aLn_31, arr_31, B_X9_needPairs_31, B_X9_needPairs_32, wi_irem, B_X9_needPairs_48, B_X9_needPairs_49, wi_istore_n, wi_istore, B_X9_needPairs_54, wi_iload, wi_icmp_ge, B_X9_needPairs_76, wi_bipush, B_X9_needPairs_82, wi_iadd, B_X9_needPairs_94, B_X9_needPairs_100, wi_goto, B_X9_needPairs_107, B_X9_needPairs_108, wi_iinc, B_X9_needPairs_115, B_X9_needPairs_123, B_X9_needPairs_128, no0, no1, nz1, nz2, nz3, nz4, nz5, nz7, nz8, Classical.not_not, bz0, bz1, wi_nil, ld_0, ld_s, isIv_I, isLv_L, isRv_R, true_and, and_true, lset_0, lset_1, lset_s, avw_I, avw_L, avw_R, clr_cons, clr_nil, kst_0, kst_1, kstL_0, kstL_1, addk_I, pA_0, pA_s, pD_0, pD_s, wid_nil, wid_cons, rcv_c, putv_I, putv_L, List.length_cons, List.length_nil, List.set_cons_zero, List.set_cons_succ, not_false_eq_true, Nat.reduceMod, Nat.reduceDiv, Nat.reduceEqDiff, Nat.reduceLT, Nat.reduceLeDiff, Nat.reduceAdd, Nat.reduceSub, reduceIte, Nat.lt_irrefl, Nat.zero_ne_one, Nat.one_ne_zero, Nat.zero_add, List.nil_append, List.cons_append, Option.toList_some, Option.toList_none, forall_const, false_implies, true_implies, false_or, or_false, true_or, or_true, i_le, i_lt, i_eq, i_eq0, i_lt0, i_0le, i_0lt, i_le0, i_in1, i_cl, nI_add, pk_mul, pk_sub, i_div, i_rem, i_sh1, i_bit, i_or, i_and, i_andn, nt_le, nf_le, nt_lt, nf_lt, nt_eq, nf_eq, not_true_eq_false, and_self, and_false, false_and, eq_self, Bool.toNat_true, Bool.toNat_false, i_bool, i_bool1, Bool.false_eq_true, Bool.true_eq_false, reduceCtorEq, i_neg1, i_neg2, i_neg3, i_neg4, i_neg5, i_neg6, i_neg7, i_neg8, i_neg9, i_nega, i_negb, i_negc, i_max2, i_min2, (inb_t hb (by decide)), hs])
  refine c_meets (by decide) ?_
  try simp (disch := omega) only [no0, no1, nz1, nz2, nz3, nz4, nz5, nz7, nz8, Classical.not_not, bz0, bz1, wi_nil, ld_0, ld_s, isIv_I, isLv_L, isRv_R, true_and, and_true, lset_0, lset_1, lset_s, avw_I, avw_L, avw_R, clr_cons, clr_nil, kst_0, kst_1, kstL_0, kstL_1, addk_I, pA_0, pA_s, pD_0, pD_s, wid_nil, wid_cons, rcv_c, putv_I, putv_L, List.length_cons, List.length_nil, List.set_cons_zero, List.set_cons_succ, not_false_eq_true, Nat.reduceMod, Nat.reduceDiv, Nat.reduceEqDiff, Nat.reduceLT, Nat.reduceLeDiff, Nat.reduceAdd, Nat.reduceSub, reduceIte, Nat.lt_irrefl, Nat.zero_ne_one, Nat.one_ne_zero, Nat.zero_add, List.nil_append, List.cons_append, Option.toList_some, Option.toList_none, forall_const, false_implies, true_implies, false_or, or_false, true_or, or_true, i_le, i_lt, i_eq, i_eq0, i_lt0, i_0le, i_0lt, i_le0, i_in1, i_cl, nI_add, pk_mul, pk_sub, i_div, i_rem, i_sh1, i_bit, i_or, i_and, i_andn, nt_le, nf_le, nt_lt, nf_lt, nt_eq, nf_eq, not_true_eq_false, and_self, and_false, false_and, eq_self, Bool.toNat_true, Bool.toNat_false, i_bool, i_bool1, Bool.false_eq_true, Bool.true_eq_false, reduceCtorEq, i_neg1, i_neg2, i_neg3, i_neg4, i_neg5, i_neg6, i_neg7, i_neg8, i_neg9, i_nega, i_negb, i_negc, i_max2, i_min2, wi_nil]
  repeat (
    first
    | refine s_X9_needPairs_0 ?_
    | refine s_X9_needPairs_5 ?_
    | refine s_X9_needPairs_12 ?_
    | refine s_X9_needPairs_15 ?_
    | refine s_X9_needPairs_17 ?_
    | refine s_X9_needPairs_31 ?_
    | refine s_X9_needPairs_32 ?_
    | refine s_X9_needPairs_48 ?_
    | refine s_X9_needPairs_49 ?_
    | refine s_X9_needPairs_76 ?_
    | refine s_X9_needPairs_82 ?_
    | refine s_X9_needPairs_94 ?_
    | refine s_X9_needPairs_100 ?_
    | refine s_X9_needPairs_107 ?_
    | refine s_X9_needPairs_108 ?_
    | refine s_X9_needPairs_115 ?_
    | refine s_X9_needPairs_123 ?_
    | refine s_X9_needPairs_128 ?_
    simp (disch := omega) only [B_X9_needPairs_0, wi_aload_n, wi_iload_n, wi_invokevirtual, cnt_8, B_X9_needPairs_5, wi_if_eq, wi_invokestatic, B_X9_needPairs_12, wi_if_ne, B_X9_needPairs_15, wi_iconst, wi_ireturn, B_X9_needPairs_17, wi_getfield, fldv_8_5, fds_8_5, wi_iaload, wi_if_ge, cnt_31, aTy_31, aLn_31, arr_31, B_X9_needPairs_31, B_X9_needPairs_32, wi_irem, B_X9_needPairs_48, B_X9_needPairs_49, wi_istore_n, wi_istore, B_X9_needPairs_54, wi_iload, wi_icmp_ge, B_X9_needPairs_76, wi_bipush, B_X9_needPairs_82, wi_iadd, B_X9_needPairs_94, B_X9_needPairs_100, wi_goto, B_X9_needPairs_107, B_X9_needPairs_108, wi_iinc, B_X9_needPairs_115, B_X9_needPairs_123, B_X9_needPairs_128, no0, no1, nz1, nz2, nz3, nz4, nz5, nz7, nz8, Classical.not_not, bz0, bz1, wi_nil, ld_0, ld_s, isIv_I, isLv_L, isRv_R, true_and, and_true, lset_0, lset_1, lset_s, avw_I, avw_L, avw_R, clr_cons, clr_nil, kst_0, kst_1, kstL_0, kstL_1, addk_I, pA_0, pA_s, pD_0, pD_s, wid_nil, wid_cons, rcv_c, putv_I, putv_L, List.length_cons, List.length_nil, List.set_cons_zero, List.set_cons_succ, not_false_eq_true, Nat.reduceMod, Nat.reduceDiv, Nat.reduceEqDiff, Nat.reduceLT, Nat.reduceLeDiff, Nat.reduceAdd, Nat.reduceSub, reduceIte, Nat.lt_irrefl, Nat.zero_ne_one, Nat.one_ne_zero, Nat.zero_add, List.nil_append, List.cons_append, Option.toList_some, Option.toList_none, forall_const, false_implies, true_implies, false_or, or_false, true_or, or_true, i_le, i_lt, i_eq, i_eq0, i_lt0, i_0le, i_0lt, i_le0, i_in1, i_cl, nI_add, pk_mul, pk_sub, i_div, i_rem, i_sh1, i_bit, i_or, i_and, i_andn, nt_le, nf_le, nt_lt, nf_lt, nt_eq, nf_eq, not_true_eq_false, and_self, and_false, false_and, eq_self, Bool.toNat_true, Bool.toNat_false, i_bool, i_bool1, Bool.false_eq_true, Bool.true_eq_false, reduceCtorEq, i_neg1, i_neg2, i_neg3, i_neg4, i_neg5, i_neg6, i_neg7, i_neg8, i_neg9, i_nega, i_negb, i_negc, i_max2, i_min2])
  exact q
theorem np_odd {a b h : Nat} (hm : YrM S 40 Y) (hn5 : Y 6 0 ≤ 5) (ht : Tb S 31 32 6 40 rs rc) (ha : a < Y 6 0) (hb : b < 6) (hh : h ≤ 20) (hz : rs b = 2 * h + 2) (q : P (some (aI (-nI 3))) (mRef 5 S)) : wpM (d + 4) mX9_needPairs [aR 8 0, aI (nI a), aI (nI b)] S P := by
  have hs := (ht b hb).1
  rw [hz, show 2 * h + 2 = 2 * h + 1 + 1 by omega, sz_s] at hs
  refine x_entry (ls2 := [aR 8 0, aI (nI a), aI (nI b), aU, aU]) (Nat.le_of_ble_eq_true rfl) pl_9 rfl (Nat.le_of_ble_eq_true rfl) ?_
  try simp (disch := omega) only [no0, no1, nz1, nz2, nz3, nz4, nz5, nz7, nz8, Classical.not_not, bz0, bz1, wi_nil, ld_0, ld_s, isIv_I, isLv_L, isRv_R, true_and, and_true, lset_0, lset_1, lset_s, avw_I, avw_L, avw_R, clr_cons, clr_nil, kst_0, kst_1, kstL_0, kstL_1, addk_I, pA_0, pA_s, pD_0, pD_s, wid_nil, wid_cons, rcv_c, putv_I, putv_L, List.length_cons, List.length_nil, List.set_cons_zero, List.set_cons_succ, not_false_eq_true, Nat.reduceMod, Nat.reduceDiv, Nat.reduceEqDiff, Nat.reduceLT, Nat.reduceLeDiff, Nat.reduceAdd, Nat.reduceSub, reduceIte, Nat.lt_irrefl, Nat.zero_ne_one, Nat.one_ne_zero, Nat.zero_add, List.nil_append, List.cons_append, Option.toList_some, Option.toList_none, forall_const, false_implies, true_implies, false_or, or_false, true_or, or_true, i_le, i_lt, i_eq, i_eq0, i_lt0, i_0le, i_0lt, i_le0, i_in1, i_cl, nI_add, pk_mul, pk_sub, i_div, i_rem, i_sh1, i_bit, i_or, i_and, i_andn, nt_le, nf_le, nt_lt, nf_lt, nt_eq, nf_eq, not_true_eq_false, and_self, and_false, false_and, eq_self, Bool.toNat_true, Bool.toNat_false, i_bool, i_bool1, Bool.false_eq_true, Bool.true_eq_false, reduceCtorEq, i_neg1, i_neg2, i_neg3, i_neg4, i_neg5, i_neg6, i_neg7, i_neg8, i_neg9, i_nega, i_negb, i_negc, i_max2, i_min2, wi_nil]
  repeat (
    first
    | refine s_X9_needPairs_0 ?_
    | refine s_X9_needPairs_5 ?_
    | refine s_X9_needPairs_12 ?_
    | refine s_X9_needPairs_15 ?_
    | refine s_X9_needPairs_17 ?_
    | refine s_X9_needPairs_31 ?_
    | refine s_X9_needPairs_32 ?_
    | refine s_X9_needPairs_48 ?_
    | refine s_X9_needPairs_49 ?_
    | refine s_X9_needPairs_76 ?_
    | refine s_X9_needPairs_82 ?_
    | refine s_X9_needPairs_94 ?_
    | refine s_X9_needPairs_100 ?_
    | refine s_X9_needPairs_107 ?_
    | refine s_X9_needPairs_108 ?_
    | refine s_X9_needPairs_115 ?_
    | refine s_X9_needPairs_123 ?_
    | refine s_X9_needPairs_128 ?_
    simp (disch := omega) only [B_X9_needPairs_0, wi_aload_n, wi_iload_n, wi_invokevirtual, cnt_8, B_X9_needPairs_5, wi_if_eq, wi_invokestatic, B_X9_needPairs_12, wi_if_ne, B_X9_needPairs_15, wi_iconst, wi_ireturn, B_X9_needPairs_17, wi_getfield, fldv_8_5, fds_8_5, wi_iaload, wi_if_ge, cnt_31, aTy_31, aLn_31, arr_31, B_X9_needPairs_31, B_X9_needPairs_32, wi_irem, B_X9_needPairs_48, B_X9_needPairs_49, wi_istore_n, wi_istore, B_X9_needPairs_54, wi_iload, wi_icmp_ge, B_X9_needPairs_76, wi_bipush, B_X9_needPairs_82, wi_iadd, B_X9_needPairs_94, B_X9_needPairs_100, wi_goto, B_X9_needPairs_107, B_X9_needPairs_108, wi_iinc, B_X9_needPairs_115, B_X9_needPairs_123, B_X9_needPairs_128, no0, no1, nz1, nz2, nz3, nz4, nz5, nz7, nz8, Classical.not_not, bz0, bz1, wi_nil, ld_0, ld_s, isIv_I, isLv_L, isRv_R, true_and, and_true, lset_0, lset_1, lset_s, avw_I, avw_L, avw_R, clr_cons, clr_nil, kst_0, kst_1, kstL_0, kstL_1, addk_I, pA_0, pA_s, pD_0, pD_s, wid_nil, wid_cons, rcv_c, putv_I, putv_L, List.length_cons, List.length_nil, List.set_cons_zero, List.set_cons_succ, not_false_eq_true, Nat.reduceMod, Nat.reduceDiv, Nat.reduceEqDiff, Nat.reduceLT, Nat.reduceLeDiff, Nat.reduceAdd, Nat.reduceSub, reduceIte, Nat.lt_irrefl, Nat.zero_ne_one, Nat.one_ne_zero, Nat.zero_add, List.nil_append, List.cons_append, Option.toList_some, Option.toList_none, forall_const, false_implies, true_implies, false_or, or_false, true_or, or_true, i_le, i_lt, i_eq, i_eq0, i_lt0, i_0le, i_0lt, i_le0, i_in1, i_cl, nI_add, pk_mul, pk_sub, i_div, i_rem, i_sh1, i_bit, i_or, i_and, i_andn, nt_le, nf_le, nt_lt, nf_lt, nt_eq, nf_eq, not_true_eq_false, and_self, and_false, false_and, eq_self, Bool.toNat_true, Bool.toNat_false, i_bool, i_bool1, Bool.false_eq_true, Bool.true_eq_false, reduceCtorEq, i_neg1, i_neg2, i_neg3, i_neg4, i_neg5, i_neg6, i_neg7, i_neg8, i_neg9, i_nega, i_negb, i_negc, i_max2, i_min2])
  refine c_mDeed hm hn5 ?_
  try simp (disch := omega) only [no0, no1, nz1, nz2, nz3, nz4, nz5, nz7, nz8, Classical.not_not, bz0, bz1, wi_nil, ld_0, ld_s, isIv_I, isLv_L, isRv_R, true_and, and_true, lset_0, lset_1, lset_s, avw_I, avw_L, avw_R, clr_cons, clr_nil, kst_0, kst_1, kstL_0, kstL_1, addk_I, pA_0, pA_s, pD_0, pD_s, wid_nil, wid_cons, rcv_c, putv_I, putv_L, List.length_cons, List.length_nil, List.set_cons_zero, List.set_cons_succ, not_false_eq_true, Nat.reduceMod, Nat.reduceDiv, Nat.reduceEqDiff, Nat.reduceLT, Nat.reduceLeDiff, Nat.reduceAdd, Nat.reduceSub, reduceIte, Nat.lt_irrefl, Nat.zero_ne_one, Nat.one_ne_zero, Nat.zero_add, List.nil_append, List.cons_append, Option.toList_some, Option.toList_none, forall_const, false_implies, true_implies, false_or, or_false, true_or, or_true, i_le, i_lt, i_eq, i_eq0, i_lt0, i_0le, i_0lt, i_le0, i_in1, i_cl, nI_add, pk_mul, pk_sub, i_div, i_rem, i_sh1, i_bit, i_or, i_and, i_andn, nt_le, nf_le, nt_lt, nf_lt, nt_eq, nf_eq, not_true_eq_false, and_self, and_false, false_and, eq_self, Bool.toNat_true, Bool.toNat_false, i_bool, i_bool1, Bool.false_eq_true, Bool.true_eq_false, reduceCtorEq, i_neg1, i_neg2, i_neg3, i_neg4, i_neg5, i_neg6, i_neg7, i_neg8, i_neg9, i_nega, i_negb, i_negc, i_max2, i_min2, (inb_t ha (by omega)), wi_nil]
  repeat (
    first
    | refine s_X9_needPairs_0 ?_
    | refine s_X9_needPairs_5 ?_
    | refine s_X9_needPairs_12 ?_
    | refine s_X9_needPairs_15 ?_
    | refine s_X9_needPairs_17 ?_
    | refine s_X9_needPairs_31 ?_
    | refine s_X9_needPairs_32 ?_
    | refine s_X9_needPairs_48 ?_
    | refine s_X9_needPairs_49 ?_
    | refine s_X9_needPairs_76 ?_
    | refine s_X9_needPairs_82 ?_
    | refine s_X9_needPairs_94 ?_
    | refine s_X9_needPairs_100 ?_
    | refine s_X9_needPairs_107 ?_
    | refine s_X9_needPairs_108 ?_
    | refine s_X9_needPairs_115 ?_
    | refine s_X9_needPairs_123 ?_
    | refine s_X9_needPairs_128 ?_
    simp (disch := omega) only [B_X9_needPairs_0, wi_aload_n, wi_iload_n, wi_invokevirtual, cnt_8, B_X9_needPairs_5, wi_if_eq, wi_invokestatic, B_X9_needPairs_12, wi_if_ne, B_X9_needPairs_15, wi_iconst, wi_ireturn, B_X9_needPairs_17, wi_getfield, fldv_8_5, fds_8_5, wi_iaload, wi_if_ge, cnt_31, aTy_31, aLn_31, arr_31, B_X9_needPairs_31, B_X9_needPairs_32, wi_irem, B_X9_needPairs_48, B_X9_needPairs_49, wi_istore_n, wi_istore, B_X9_needPairs_54, wi_iload, wi_icmp_ge, B_X9_needPairs_76, wi_bipush, B_X9_needPairs_82, wi_iadd, B_X9_needPairs_94, B_X9_needPairs_100, wi_goto, B_X9_needPairs_107, B_X9_needPairs_108, wi_iinc, B_X9_needPairs_115, B_X9_needPairs_123, B_X9_needPairs_128, no0, no1, nz1, nz2, nz3, nz4, nz5, nz7, nz8, Classical.not_not, bz0, bz1, wi_nil, ld_0, ld_s, isIv_I, isLv_L, isRv_R, true_and, and_true, lset_0, lset_1, lset_s, avw_I, avw_L, avw_R, clr_cons, clr_nil, kst_0, kst_1, kstL_0, kstL_1, addk_I, pA_0, pA_s, pD_0, pD_s, wid_nil, wid_cons, rcv_c, putv_I, putv_L, List.length_cons, List.length_nil, List.set_cons_zero, List.set_cons_succ, not_false_eq_true, Nat.reduceMod, Nat.reduceDiv, Nat.reduceEqDiff, Nat.reduceLT, Nat.reduceLeDiff, Nat.reduceAdd, Nat.reduceSub, reduceIte, Nat.lt_irrefl, Nat.zero_ne_one, Nat.one_ne_zero, Nat.zero_add, List.nil_append, List.cons_append, Option.toList_some, Option.toList_none, forall_const, false_implies, true_implies, false_or, or_false, true_or, or_true, i_le, i_lt, i_eq, i_eq0, i_lt0, i_0le, i_0lt, i_le0, i_in1, i_cl, nI_add, pk_mul, pk_sub, i_div, i_rem, i_sh1, i_bit, i_or, i_and, i_andn, nt_le, nf_le, nt_lt, nf_lt, nt_eq, nf_eq, not_true_eq_false, and_self, and_false, false_and, eq_self, Bool.toNat_true, Bool.toNat_false, i_bool, i_bool1, Bool.false_eq_true, Bool.true_eq_false, reduceCtorEq, i_neg1, i_neg2, i_neg3, i_neg4, i_neg5, i_neg6, i_neg7, i_neg8, i_neg9, i_nega, i_negb, i_negc, i_max2, i_min2, (inb_t ha (by omega))])
  refine c_mRow ?_
  try simp (disch := omega) only [no0, no1, nz1, nz2, nz3, nz4, nz5, nz7, nz8, Classical.not_not, bz0, bz1, wi_nil, ld_0, ld_s, isIv_I, isLv_L, isRv_R, true_and, and_true, lset_0, lset_1, lset_s, avw_I, avw_L, avw_R, clr_cons, clr_nil, kst_0, kst_1, kstL_0, kstL_1, addk_I, pA_0, pA_s, pD_0, pD_s, wid_nil, wid_cons, rcv_c, putv_I, putv_L, List.length_cons, List.length_nil, List.set_cons_zero, List.set_cons_succ, not_false_eq_true, Nat.reduceMod, Nat.reduceDiv, Nat.reduceEqDiff, Nat.reduceLT, Nat.reduceLeDiff, Nat.reduceAdd, Nat.reduceSub, reduceIte, Nat.lt_irrefl, Nat.zero_ne_one, Nat.one_ne_zero, Nat.zero_add, List.nil_append, List.cons_append, Option.toList_some, Option.toList_none, forall_const, false_implies, true_implies, false_or, or_false, true_or, or_true, i_le, i_lt, i_eq, i_eq0, i_lt0, i_0le, i_0lt, i_le0, i_in1, i_cl, nI_add, pk_mul, pk_sub, i_div, i_rem, i_sh1, i_bit, i_or, i_and, i_andn, nt_le, nf_le, nt_lt, nf_lt, nt_eq, nf_eq, not_true_eq_false, and_self, and_false, false_and, eq_self, Bool.toNat_true, Bool.toNat_false, i_bool, i_bool1, Bool.false_eq_true, Bool.true_eq_false, reduceCtorEq, i_neg1, i_neg2, i_neg3, i_neg4, i_neg5, i_neg6, i_neg7, i_neg8, i_neg9, i_nega, i_negb, i_negc, i_max2, i_min2, (inb_t hb (by decide)), hs, wi_nil]
  repeat (
    first
    | refine s_X9_needPairs_0 ?_
    | refine s_X9_needPairs_5 ?_
    | refine s_X9_needPairs_12 ?_
    | refine s_X9_needPairs_15 ?_
    | refine s_X9_needPairs_17 ?_
    | refine s_X9_needPairs_31 ?_
    | refine s_X9_needPairs_32 ?_
    | refine s_X9_needPairs_48 ?_
    | refine s_X9_needPairs_49 ?_
    | refine s_X9_needPairs_76 ?_
    | refine s_X9_needPairs_82 ?_
    | refine s_X9_needPairs_94 ?_
    | refine s_X9_needPairs_100 ?_
    | refine s_X9_needPairs_107 ?_
    | refine s_X9_needPairs_108 ?_
    | refine s_X9_needPairs_115 ?_
    | refine s_X9_needPairs_123 ?_
    | refine s_X9_needPairs_128 ?_
    simp (disch := omega) only [B_X9_needPairs_0, wi_aload_n, wi_iload_n, wi_invokevirtual, cnt_8, B_X9_needPairs_5, wi_if_eq, wi_invokestatic, B_X9_needPairs_12, wi_if_ne, B_X9_needPairs_15, wi_iconst, wi_ireturn, B_X9_needPairs_17, wi_getfield, fldv_8_5, fds_8_5, wi_iaload, wi_if_ge, cnt_31, aTy_31, aLn_31, arr_31, B_X9_needPairs_31, B_X9_needPairs_32, wi_irem, B_X9_needPairs_48, B_X9_needPairs_49, wi_istore_n, wi_istore, B_X9_needPairs_54, wi_iload, wi_icmp_ge, B_X9_needPairs_76, wi_bipush, B_X9_needPairs_82, wi_iadd, B_X9_needPairs_94, B_X9_needPairs_100, wi_goto, B_X9_needPairs_107, B_X9_needPairs_108, wi_iinc, B_X9_needPairs_115, B_X9_needPairs_123, B_X9_needPairs_128, no0, no1, nz1, nz2, nz3, nz4, nz5, nz7, nz8, Classical.not_not, bz0, bz1, wi_nil, ld_0, ld_s, isIv_I, isLv_L, isRv_R, true_and, and_true, lset_0, lset_1, lset_s, avw_I, avw_L, avw_R, clr_cons, clr_nil, kst_0, kst_1, kstL_0, kstL_1, addk_I, pA_0, pA_s, pD_0, pD_s, wid_nil, wid_cons, rcv_c, putv_I, putv_L, List.length_cons, List.length_nil, List.set_cons_zero, List.set_cons_succ, not_false_eq_true, Nat.reduceMod, Nat.reduceDiv, Nat.reduceEqDiff, Nat.reduceLT, Nat.reduceLeDiff, Nat.reduceAdd, Nat.reduceSub, reduceIte, Nat.lt_irrefl, Nat.zero_ne_one, Nat.one_ne_zero, Nat.zero_add, List.nil_append, List.cons_append, Option.toList_some, Option.toList_none, forall_const, false_implies, true_implies, false_or, or_false, true_or, or_true, i_le, i_lt, i_eq, i_eq0, i_lt0, i_0le, i_0lt, i_le0, i_in1, i_cl, nI_add, pk_mul, pk_sub, i_div, i_rem, i_sh1, i_bit, i_or, i_and, i_andn, nt_le, nf_le, nt_lt, nf_lt, nt_eq, nf_eq, not_true_eq_false, and_self, and_false, false_and, eq_self, Bool.toNat_true, Bool.toNat_false, i_bool, i_bool1, Bool.false_eq_true, Bool.true_eq_false, reduceCtorEq, i_neg1, i_neg2, i_neg3, i_neg4, i_neg5, i_neg6, i_neg7, i_neg8, i_neg9, i_nega, i_negb, i_negc, i_max2, i_min2, (inb_t hb (by decide)), hs])
  refine c_meets (by decide) ?_
  try simp (disch := omega) only [no0, no1, nz1, nz2, nz3, nz4, nz5, nz7, nz8, Classical.not_not, bz0, bz1, wi_nil, ld_0, ld_s, isIv_I, isLv_L, isRv_R, true_and, and_true, lset_0, lset_1, lset_s, avw_I, avw_L, avw_R, clr_cons, clr_nil, kst_0, kst_1, kstL_0, kstL_1, addk_I, pA_0, pA_s, pD_0, pD_s, wid_nil, wid_cons, rcv_c, putv_I, putv_L, List.length_cons, List.length_nil, List.set_cons_zero, List.set_cons_succ, not_false_eq_true, Nat.reduceMod, Nat.reduceDiv, Nat.reduceEqDiff, Nat.reduceLT, Nat.reduceLeDiff, Nat.reduceAdd, Nat.reduceSub, reduceIte, Nat.lt_irrefl, Nat.zero_ne_one, Nat.one_ne_zero, Nat.zero_add, List.nil_append, List.cons_append, Option.toList_some, Option.toList_none, forall_const, false_implies, true_implies, false_or, or_false, true_or, or_true, i_le, i_lt, i_eq, i_eq0, i_lt0, i_0le, i_0lt, i_le0, i_in1, i_cl, nI_add, pk_mul, pk_sub, i_div, i_rem, i_sh1, i_bit, i_or, i_and, i_andn, nt_le, nf_le, nt_lt, nf_lt, nt_eq, nf_eq, not_true_eq_false, and_self, and_false, false_and, eq_self, Bool.toNat_true, Bool.toNat_false, i_bool, i_bool1, Bool.false_eq_true, Bool.true_eq_false, reduceCtorEq, i_neg1, i_neg2, i_neg3, i_neg4, i_neg5, i_neg6, i_neg7, i_neg8, i_neg9, i_nega, i_negb, i_negc, i_max2, i_min2, wi_nil]
  repeat (
    first
    | refine s_X9_needPairs_0 ?_
    | refine s_X9_needPairs_5 ?_
    | refine s_X9_needPairs_12 ?_
    | refine s_X9_needPairs_15 ?_
    | refine s_X9_needPairs_17 ?_
    | refine s_X9_needPairs_31 ?_
    | refine s_X9_needPairs_32 ?_
    | refine s_X9_needPairs_48 ?_
    | refine s_X9_needPairs_49 ?_
    | refine s_X9_needPairs_76 ?_
    | refine s_X9_needPairs_82 ?_
    | refine s_X9_needPairs_94 ?_
    | refine s_X9_needPairs_100 ?_
    | refine s_X9_needPairs_107 ?_
    | refine s_X9_needPairs_108 ?_
    | refine s_X9_needPairs_115 ?_
    | refine s_X9_needPairs_123 ?_
    | refine s_X9_needPairs_128 ?_
    simp (disch := omega) only [B_X9_needPairs_0, wi_aload_n, wi_iload_n, wi_invokevirtual, cnt_8, B_X9_needPairs_5, wi_if_eq, wi_invokestatic, B_X9_needPairs_12, wi_if_ne, B_X9_needPairs_15, wi_iconst, wi_ireturn, B_X9_needPairs_17, wi_getfield, fldv_8_5, fds_8_5, wi_iaload, wi_if_ge, cnt_31, aTy_31, aLn_31, arr_31, B_X9_needPairs_31, B_X9_needPairs_32, wi_irem, B_X9_needPairs_48, B_X9_needPairs_49, wi_istore_n, wi_istore, B_X9_needPairs_54, wi_iload, wi_icmp_ge, B_X9_needPairs_76, wi_bipush, B_X9_needPairs_82, wi_iadd, B_X9_needPairs_94, B_X9_needPairs_100, wi_goto, B_X9_needPairs_107, B_X9_needPairs_108, wi_iinc, B_X9_needPairs_115, B_X9_needPairs_123, B_X9_needPairs_128, no0, no1, nz1, nz2, nz3, nz4, nz5, nz7, nz8, Classical.not_not, bz0, bz1, wi_nil, ld_0, ld_s, isIv_I, isLv_L, isRv_R, true_and, and_true, lset_0, lset_1, lset_s, avw_I, avw_L, avw_R, clr_cons, clr_nil, kst_0, kst_1, kstL_0, kstL_1, addk_I, pA_0, pA_s, pD_0, pD_s, wid_nil, wid_cons, rcv_c, putv_I, putv_L, List.length_cons, List.length_nil, List.set_cons_zero, List.set_cons_succ, not_false_eq_true, Nat.reduceMod, Nat.reduceDiv, Nat.reduceEqDiff, Nat.reduceLT, Nat.reduceLeDiff, Nat.reduceAdd, Nat.reduceSub, reduceIte, Nat.lt_irrefl, Nat.zero_ne_one, Nat.one_ne_zero, Nat.zero_add, List.nil_append, List.cons_append, Option.toList_some, Option.toList_none, forall_const, false_implies, true_implies, false_or, or_false, true_or, or_true, i_le, i_lt, i_eq, i_eq0, i_lt0, i_0le, i_0lt, i_le0, i_in1, i_cl, nI_add, pk_mul, pk_sub, i_div, i_rem, i_sh1, i_bit, i_or, i_and, i_andn, nt_le, nf_le, nt_lt, nf_lt, nt_eq, nf_eq, not_true_eq_false, and_self, and_false, false_and, eq_self, Bool.toNat_true, Bool.toNat_false, i_bool, i_bool1, Bool.false_eq_true, Bool.true_eq_false, reduceCtorEq, i_neg1, i_neg2, i_neg3, i_neg4, i_neg5, i_neg6, i_neg7, i_neg8, i_neg9, i_nega, i_negb, i_negc, i_max2, i_min2])
  exact q
theorem l_needP {r h : Nat} (ht : Tb S 31 32 6 40 rs rc) (hr : r < 6) (hz : rs r = 2 * h + 1) (hh : h ≤ 20) (q : wpX (d + 3) mX9_needPairs 115 [aR 8 0, aU, aU, aI (nI (prB rc r h).toNat), aU] [] S P) : ∀ (m j : Nat), j + m = h → wpX (d + 3) mX9_needPairs 54 [aR 8 0, aU, aI (nI r), aI (nI (prB rc r j).toNat), aI (nI (2 * j))] [] S P := by
  have hs := (ht r hr).1
  rw [hz, sz_s] at hs
  intro m
  induction m with
  | zero =>
    intro j hj
    have e : j = h := by omega
    subst e
    refine s_X9_needPairs_54 ?_
    simp (disch := omega) only [B_X9_needPairs_54, wi_iload, wi_aload_n, wi_getfield, fldv_8_5, fds_8_5, cnt_8, wi_iload_n, wi_iaload, wi_icmp_ge, wi_if_eq, wi_invokevirtual, cnt_31, aTy_31, aLn_31, arr_31, no0, no1, nz1, nz2, nz3, nz4, nz5, nz7, nz8, Classical.not_not, bz0, bz1, wi_nil, ld_0, ld_s, isIv_I, isLv_L, isRv_R, true_and, and_true, lset_0, lset_1, lset_s, avw_I, avw_L, avw_R, clr_cons, clr_nil, kst_0, kst_1, kstL_0, kstL_1, addk_I, pA_0, pA_s, pD_0, pD_s, wid_nil, wid_cons, rcv_c, putv_I, putv_L, List.length_cons, List.length_nil, List.set_cons_zero, List.set_cons_succ, not_false_eq_true, Nat.reduceMod, Nat.reduceDiv, Nat.reduceEqDiff, Nat.reduceLT, Nat.reduceLeDiff, Nat.reduceAdd, Nat.reduceSub, reduceIte, Nat.lt_irrefl, Nat.zero_ne_one, Nat.one_ne_zero, Nat.zero_add, List.nil_append, List.cons_append, Option.toList_some, Option.toList_none, forall_const, false_implies, true_implies, false_or, or_false, true_or, or_true, i_le, i_lt, i_eq, i_eq0, i_lt0, i_0le, i_0lt, i_le0, i_in1, i_cl, nI_add, pk_mul, pk_sub, i_div, i_rem, i_sh1, i_bit, i_or, i_and, i_andn, nt_le, nf_le, nt_lt, nf_lt, nt_eq, nf_eq, not_true_eq_false, and_self, and_false, false_and, eq_self, Bool.toNat_true, Bool.toNat_false, i_bool, i_bool1, Bool.false_eq_true, Bool.true_eq_false, reduceCtorEq, i_neg1, i_neg2, i_neg3, i_neg4, i_neg5, i_neg6, i_neg7, i_neg8, i_neg9, i_nega, i_negb, i_negc, i_max2, i_min2, hs]
    exact q
  | succ m ih =>
    intro j hj
    have hnx := ih (j + 1) (by omega)
    rw [show 2 * (j + 1) = 2 * j + 2 by omega, prB] at hnx
    have e1 : (nI 1).toInt = 1 := nI_toInt (by decide)
    have e99 : (nI 99).toInt = 99 := nI_toInt (by decide)
    have e20 : (nI 20).toInt = 20 := nI_toInt (by decide)
    have e0 : (nI 0).toInt = 0 := nI_toInt (by decide)
    cases hp : prB rc r j
    · rw [hp, Bool.false_and] at hnx
      refine s_X9_needPairs_54 ?_
      simp (disch := omega) only [B_X9_needPairs_54, wi_iload, wi_aload_n, wi_getfield, fldv_8_5, fds_8_5, cnt_8, wi_iload_n, wi_iaload, wi_icmp_ge, wi_if_eq, wi_invokevirtual, cnt_31, aTy_31, aLn_31, arr_31, no0, no1, nz1, nz2, nz3, nz4, nz5, nz7, nz8, Classical.not_not, bz0, bz1, wi_nil, ld_0, ld_s, isIv_I, isLv_L, isRv_R, true_and, and_true, lset_0, lset_1, lset_s, avw_I, avw_L, avw_R, clr_cons, clr_nil, kst_0, kst_1, kstL_0, kstL_1, addk_I, pA_0, pA_s, pD_0, pD_s, wid_nil, wid_cons, rcv_c, putv_I, putv_L, List.length_cons, List.length_nil, List.set_cons_zero, List.set_cons_succ, not_false_eq_true, Nat.reduceMod, Nat.reduceDiv, Nat.reduceEqDiff, Nat.reduceLT, Nat.reduceLeDiff, Nat.reduceAdd, Nat.reduceSub, reduceIte, Nat.lt_irrefl, Nat.zero_ne_one, Nat.one_ne_zero, Nat.zero_add, List.nil_append, List.cons_append, Option.toList_some, Option.toList_none, forall_const, false_implies, true_implies, false_or, or_false, true_or, or_true, i_le, i_lt, i_eq, i_eq0, i_lt0, i_0le, i_0lt, i_le0, i_in1, i_cl, nI_add, pk_mul, pk_sub, i_div, i_rem, i_sh1, i_bit, i_or, i_and, i_andn, nt_le, nf_le, nt_lt, nf_lt, nt_eq, nf_eq, not_true_eq_false, and_self, and_false, false_and, eq_self, Bool.toNat_true, Bool.toNat_false, i_bool, i_bool1, Bool.false_eq_true, Bool.true_eq_false, reduceCtorEq, i_neg1, i_neg2, i_neg3, i_neg4, i_neg5, i_neg6, i_neg7, i_neg8, i_neg9, i_nega, i_negb, i_negc, i_max2, i_min2, hs]
      try simp (disch := omega) only [no0, no1, nz1, nz2, nz3, nz4, nz5, nz7, nz8, Classical.not_not, bz0, bz1, wi_nil, ld_0, ld_s, isIv_I, isLv_L, isRv_R, true_and, and_true, lset_0, lset_1, lset_s, avw_I, avw_L, avw_R, clr_cons, clr_nil, kst_0, kst_1, kstL_0, kstL_1, addk_I, pA_0, pA_s, pD_0, pD_s, wid_nil, wid_cons, rcv_c, putv_I, putv_L, List.length_cons, List.length_nil, List.set_cons_zero, List.set_cons_succ, not_false_eq_true, Nat.reduceMod, Nat.reduceDiv, Nat.reduceEqDiff, Nat.reduceLT, Nat.reduceLeDiff, Nat.reduceAdd, Nat.reduceSub, reduceIte, Nat.lt_irrefl, Nat.zero_ne_one, Nat.one_ne_zero, Nat.zero_add, List.nil_append, List.cons_append, Option.toList_some, Option.toList_none, forall_const, false_implies, true_implies, false_or, or_false, true_or, or_true, i_le, i_lt, i_eq, i_eq0, i_lt0, i_0le, i_0lt, i_le0, i_in1, i_cl, nI_add, pk_mul, pk_sub, i_div, i_rem, i_sh1, i_bit, i_or, i_and, i_andn, nt_le, nf_le, nt_lt, nf_lt, nt_eq, nf_eq, not_true_eq_false, and_self, and_false, false_and, eq_self, Bool.toNat_true, Bool.toNat_false, i_bool, i_bool1, Bool.false_eq_true, Bool.true_eq_false, reduceCtorEq, i_neg1, i_neg2, i_neg3, i_neg4, i_neg5, i_neg6, i_neg7, i_neg8, i_neg9, i_nega, i_negb, i_negc, i_max2, i_min2, wi_nil]
      repeat (
        first
        | refine s_X9_needPairs_0 ?_
        | refine s_X9_needPairs_5 ?_
        | refine s_X9_needPairs_12 ?_
        | refine s_X9_needPairs_15 ?_
        | refine s_X9_needPairs_17 ?_
        | refine s_X9_needPairs_31 ?_
        | refine s_X9_needPairs_32 ?_
        | refine s_X9_needPairs_48 ?_
        | refine s_X9_needPairs_49 ?_
        | refine s_X9_needPairs_76 ?_
        | refine s_X9_needPairs_82 ?_
        | refine s_X9_needPairs_94 ?_
        | refine s_X9_needPairs_100 ?_
        | refine s_X9_needPairs_107 ?_
        | refine s_X9_needPairs_108 ?_
        | refine s_X9_needPairs_115 ?_
        | refine s_X9_needPairs_123 ?_
        | refine s_X9_needPairs_128 ?_
        simp (disch := omega) only [B_X9_needPairs_0, wi_aload_n, wi_iload_n, wi_invokevirtual, cnt_8, B_X9_needPairs_5, wi_if_eq, wi_invokestatic, B_X9_needPairs_12, wi_if_ne, B_X9_needPairs_15, wi_iconst, wi_ireturn, B_X9_needPairs_17, wi_getfield, fldv_8_5, fds_8_5, wi_iaload, wi_if_ge, cnt_31, aTy_31, aLn_31, arr_31, B_X9_needPairs_31, B_X9_needPairs_32, wi_irem, B_X9_needPairs_48, B_X9_needPairs_49, wi_istore_n, wi_istore, B_X9_needPairs_54, wi_iload, wi_icmp_ge, B_X9_needPairs_76, wi_bipush, B_X9_needPairs_82, wi_iadd, B_X9_needPairs_94, B_X9_needPairs_100, wi_goto, B_X9_needPairs_107, B_X9_needPairs_108, wi_iinc, B_X9_needPairs_115, B_X9_needPairs_123, B_X9_needPairs_128, no0, no1, nz1, nz2, nz3, nz4, nz5, nz7, nz8, Classical.not_not, bz0, bz1, wi_nil, ld_0, ld_s, isIv_I, isLv_L, isRv_R, true_and, and_true, lset_0, lset_1, lset_s, avw_I, avw_L, avw_R, clr_cons, clr_nil, kst_0, kst_1, kstL_0, kstL_1, addk_I, pA_0, pA_s, pD_0, pD_s, wid_nil, wid_cons, rcv_c, putv_I, putv_L, List.length_cons, List.length_nil, List.set_cons_zero, List.set_cons_succ, not_false_eq_true, Nat.reduceMod, Nat.reduceDiv, Nat.reduceEqDiff, Nat.reduceLT, Nat.reduceLeDiff, Nat.reduceAdd, Nat.reduceSub, reduceIte, Nat.lt_irrefl, Nat.zero_ne_one, Nat.one_ne_zero, Nat.zero_add, List.nil_append, List.cons_append, Option.toList_some, Option.toList_none, forall_const, false_implies, true_implies, false_or, or_false, true_or, or_true, i_le, i_lt, i_eq, i_eq0, i_lt0, i_0le, i_0lt, i_le0, i_in1, i_cl, nI_add, pk_mul, pk_sub, i_div, i_rem, i_sh1, i_bit, i_or, i_and, i_andn, nt_le, nf_le, nt_lt, nf_lt, nt_eq, nf_eq, not_true_eq_false, and_self, and_false, false_and, eq_self, Bool.toNat_true, Bool.toNat_false, i_bool, i_bool1, Bool.false_eq_true, Bool.true_eq_false, reduceCtorEq, i_neg1, i_neg2, i_neg3, i_neg4, i_neg5, i_neg6, i_neg7, i_neg8, i_neg9, i_nega, i_negb, i_negc, i_max2, i_min2])
      exact hnx
    · rw [hp, Bool.true_and] at hnx
      refine s_X9_needPairs_54 ?_
      simp (disch := omega) only [B_X9_needPairs_54, wi_iload, wi_aload_n, wi_getfield, fldv_8_5, fds_8_5, cnt_8, wi_iload_n, wi_iaload, wi_icmp_ge, wi_if_eq, wi_invokevirtual, cnt_31, aTy_31, aLn_31, arr_31, no0, no1, nz1, nz2, nz3, nz4, nz5, nz7, nz8, Classical.not_not, bz0, bz1, wi_nil, ld_0, ld_s, isIv_I, isLv_L, isRv_R, true_and, and_true, lset_0, lset_1, lset_s, avw_I, avw_L, avw_R, clr_cons, clr_nil, kst_0, kst_1, kstL_0, kstL_1, addk_I, pA_0, pA_s, pD_0, pD_s, wid_nil, wid_cons, rcv_c, putv_I, putv_L, List.length_cons, List.length_nil, List.set_cons_zero, List.set_cons_succ, not_false_eq_true, Nat.reduceMod, Nat.reduceDiv, Nat.reduceEqDiff, Nat.reduceLT, Nat.reduceLeDiff, Nat.reduceAdd, Nat.reduceSub, reduceIte, Nat.lt_irrefl, Nat.zero_ne_one, Nat.one_ne_zero, Nat.zero_add, List.nil_append, List.cons_append, Option.toList_some, Option.toList_none, forall_const, false_implies, true_implies, false_or, or_false, true_or, or_true, i_le, i_lt, i_eq, i_eq0, i_lt0, i_0le, i_0lt, i_le0, i_in1, i_cl, nI_add, pk_mul, pk_sub, i_div, i_rem, i_sh1, i_bit, i_or, i_and, i_andn, nt_le, nf_le, nt_lt, nf_lt, nt_eq, nf_eq, not_true_eq_false, and_self, and_false, false_and, eq_self, Bool.toNat_true, Bool.toNat_false, i_bool, i_bool1, Bool.false_eq_true, Bool.true_eq_false, reduceCtorEq, i_neg1, i_neg2, i_neg3, i_neg4, i_neg5, i_neg6, i_neg7, i_neg8, i_neg9, i_nega, i_negb, i_negc, i_max2, i_min2, hs]
      refine c_rowAt ht hr (by omega) ?_
      try simp (disch := omega) only [no0, no1, nz1, nz2, nz3, nz4, nz5, nz7, nz8, Classical.not_not, bz0, bz1, wi_nil, ld_0, ld_s, isIv_I, isLv_L, isRv_R, true_and, and_true, lset_0, lset_1, lset_s, avw_I, avw_L, avw_R, clr_cons, clr_nil, kst_0, kst_1, kstL_0, kstL_1, addk_I, pA_0, pA_s, pD_0, pD_s, wid_nil, wid_cons, rcv_c, putv_I, putv_L, List.length_cons, List.length_nil, List.set_cons_zero, List.set_cons_succ, not_false_eq_true, Nat.reduceMod, Nat.reduceDiv, Nat.reduceEqDiff, Nat.reduceLT, Nat.reduceLeDiff, Nat.reduceAdd, Nat.reduceSub, reduceIte, Nat.lt_irrefl, Nat.zero_ne_one, Nat.one_ne_zero, Nat.zero_add, List.nil_append, List.cons_append, Option.toList_some, Option.toList_none, forall_const, false_implies, true_implies, false_or, or_false, true_or, or_true, i_le, i_lt, i_eq, i_eq0, i_lt0, i_0le, i_0lt, i_le0, i_in1, i_cl, nI_add, pk_mul, pk_sub, i_div, i_rem, i_sh1, i_bit, i_or, i_and, i_andn, nt_le, nf_le, nt_lt, nf_lt, nt_eq, nf_eq, not_true_eq_false, and_self, and_false, false_and, eq_self, Bool.toNat_true, Bool.toNat_false, i_bool, i_bool1, Bool.false_eq_true, Bool.true_eq_false, reduceCtorEq, i_neg1, i_neg2, i_neg3, i_neg4, i_neg5, i_neg6, i_neg7, i_neg8, i_neg9, i_nega, i_negb, i_negc, i_max2, i_min2, wi_nil]
      repeat (
        first
        | refine s_X9_needPairs_0 ?_
        | refine s_X9_needPairs_5 ?_
        | refine s_X9_needPairs_12 ?_
        | refine s_X9_needPairs_15 ?_
        | refine s_X9_needPairs_17 ?_
        | refine s_X9_needPairs_31 ?_
        | refine s_X9_needPairs_32 ?_
        | refine s_X9_needPairs_48 ?_
        | refine s_X9_needPairs_49 ?_
        | refine s_X9_needPairs_76 ?_
        | refine s_X9_needPairs_82 ?_
        | refine s_X9_needPairs_94 ?_
        | refine s_X9_needPairs_100 ?_
        | refine s_X9_needPairs_107 ?_
        | refine s_X9_needPairs_108 ?_
        | refine s_X9_needPairs_115 ?_
        | refine s_X9_needPairs_123 ?_
        | refine s_X9_needPairs_128 ?_
        simp (disch := omega) only [B_X9_needPairs_0, wi_aload_n, wi_iload_n, wi_invokevirtual, cnt_8, B_X9_needPairs_5, wi_if_eq, wi_invokestatic, B_X9_needPairs_12, wi_if_ne, B_X9_needPairs_15, wi_iconst, wi_ireturn, B_X9_needPairs_17, wi_getfield, fldv_8_5, fds_8_5, wi_iaload, wi_if_ge, cnt_31, aTy_31, aLn_31, arr_31, B_X9_needPairs_31, B_X9_needPairs_32, wi_irem, B_X9_needPairs_48, B_X9_needPairs_49, wi_istore_n, wi_istore, B_X9_needPairs_54, wi_iload, wi_icmp_ge, B_X9_needPairs_76, wi_bipush, B_X9_needPairs_82, wi_iadd, B_X9_needPairs_94, B_X9_needPairs_100, wi_goto, B_X9_needPairs_107, B_X9_needPairs_108, wi_iinc, B_X9_needPairs_115, B_X9_needPairs_123, B_X9_needPairs_128, no0, no1, nz1, nz2, nz3, nz4, nz5, nz7, nz8, Classical.not_not, bz0, bz1, wi_nil, ld_0, ld_s, isIv_I, isLv_L, isRv_R, true_and, and_true, lset_0, lset_1, lset_s, avw_I, avw_L, avw_R, clr_cons, clr_nil, kst_0, kst_1, kstL_0, kstL_1, addk_I, pA_0, pA_s, pD_0, pD_s, wid_nil, wid_cons, rcv_c, putv_I, putv_L, List.length_cons, List.length_nil, List.set_cons_zero, List.set_cons_succ, not_false_eq_true, Nat.reduceMod, Nat.reduceDiv, Nat.reduceEqDiff, Nat.reduceLT, Nat.reduceLeDiff, Nat.reduceAdd, Nat.reduceSub, reduceIte, Nat.lt_irrefl, Nat.zero_ne_one, Nat.one_ne_zero, Nat.zero_add, List.nil_append, List.cons_append, Option.toList_some, Option.toList_none, forall_const, false_implies, true_implies, false_or, or_false, true_or, or_true, i_le, i_lt, i_eq, i_eq0, i_lt0, i_0le, i_0lt, i_le0, i_in1, i_cl, nI_add, pk_mul, pk_sub, i_div, i_rem, i_sh1, i_bit, i_or, i_and, i_andn, nt_le, nf_le, nt_lt, nf_lt, nt_eq, nf_eq, not_true_eq_false, and_self, and_false, false_and, eq_self, Bool.toNat_true, Bool.toNat_false, i_bool, i_bool1, Bool.false_eq_true, Bool.true_eq_false, reduceCtorEq, i_neg1, i_neg2, i_neg3, i_neg4, i_neg5, i_neg6, i_neg7, i_neg8, i_neg9, i_nega, i_negb, i_negc, i_max2, i_min2])
      have hk : pkB rc r j = (decide (1 ≤ (rc r (2 * j)).toInt ∧ (rc r (2 * j)).toInt ≤ 99) && decide (0 ≤ (rc r (2 * j + 1)).toInt ∧ (rc r (2 * j + 1)).toInt ≤ 20)) := by
        unfold pkB
        exact Bool.decide_and _ _
      rw [hk] at hnx
      refine c_in (b := decide (1 ≤ (rc r (2 * j)).toInt ∧ (rc r (2 * j)).toInt ≤ 99)) (by rw [decide_eq_true_eq, Int32.le_iff_toInt_le, Int32.le_iff_toInt_le, e1, e99]) ?_
      cases hb1 : decide (1 ≤ (rc r (2 * j)).toInt ∧ (rc r (2 * j)).toInt ≤ 99)
      · rw [hb1, Bool.false_and] at hnx
        try simp (disch := omega) only [no0, no1, nz1, nz2, nz3, nz4, nz5, nz7, nz8, Classical.not_not, bz0, bz1, wi_nil, ld_0, ld_s, isIv_I, isLv_L, isRv_R, true_and, and_true, lset_0, lset_1, lset_s, avw_I, avw_L, avw_R, clr_cons, clr_nil, kst_0, kst_1, kstL_0, kstL_1, addk_I, pA_0, pA_s, pD_0, pD_s, wid_nil, wid_cons, rcv_c, putv_I, putv_L, List.length_cons, List.length_nil, List.set_cons_zero, List.set_cons_succ, not_false_eq_true, Nat.reduceMod, Nat.reduceDiv, Nat.reduceEqDiff, Nat.reduceLT, Nat.reduceLeDiff, Nat.reduceAdd, Nat.reduceSub, reduceIte, Nat.lt_irrefl, Nat.zero_ne_one, Nat.one_ne_zero, Nat.zero_add, List.nil_append, List.cons_append, Option.toList_some, Option.toList_none, forall_const, false_implies, true_implies, false_or, or_false, true_or, or_true, i_le, i_lt, i_eq, i_eq0, i_lt0, i_0le, i_0lt, i_le0, i_in1, i_cl, nI_add, pk_mul, pk_sub, i_div, i_rem, i_sh1, i_bit, i_or, i_and, i_andn, nt_le, nf_le, nt_lt, nf_lt, nt_eq, nf_eq, not_true_eq_false, and_self, and_false, false_and, eq_self, Bool.toNat_true, Bool.toNat_false, i_bool, i_bool1, Bool.false_eq_true, Bool.true_eq_false, reduceCtorEq, i_neg1, i_neg2, i_neg3, i_neg4, i_neg5, i_neg6, i_neg7, i_neg8, i_neg9, i_nega, i_negb, i_negc, i_max2, i_min2, wi_nil]
        repeat (
          first
          | refine s_X9_needPairs_0 ?_
          | refine s_X9_needPairs_5 ?_
          | refine s_X9_needPairs_12 ?_
          | refine s_X9_needPairs_15 ?_
          | refine s_X9_needPairs_17 ?_
          | refine s_X9_needPairs_31 ?_
          | refine s_X9_needPairs_32 ?_
          | refine s_X9_needPairs_48 ?_
          | refine s_X9_needPairs_49 ?_
          | refine s_X9_needPairs_76 ?_
          | refine s_X9_needPairs_82 ?_
          | refine s_X9_needPairs_94 ?_
          | refine s_X9_needPairs_100 ?_
          | refine s_X9_needPairs_107 ?_
          | refine s_X9_needPairs_108 ?_
          | refine s_X9_needPairs_115 ?_
          | refine s_X9_needPairs_123 ?_
          | refine s_X9_needPairs_128 ?_
          simp (disch := omega) only [B_X9_needPairs_0, wi_aload_n, wi_iload_n, wi_invokevirtual, cnt_8, B_X9_needPairs_5, wi_if_eq, wi_invokestatic, B_X9_needPairs_12, wi_if_ne, B_X9_needPairs_15, wi_iconst, wi_ireturn, B_X9_needPairs_17, wi_getfield, fldv_8_5, fds_8_5, wi_iaload, wi_if_ge, cnt_31, aTy_31, aLn_31, arr_31, B_X9_needPairs_31, B_X9_needPairs_32, wi_irem, B_X9_needPairs_48, B_X9_needPairs_49, wi_istore_n, wi_istore, B_X9_needPairs_54, wi_iload, wi_icmp_ge, B_X9_needPairs_76, wi_bipush, B_X9_needPairs_82, wi_iadd, B_X9_needPairs_94, B_X9_needPairs_100, wi_goto, B_X9_needPairs_107, B_X9_needPairs_108, wi_iinc, B_X9_needPairs_115, B_X9_needPairs_123, B_X9_needPairs_128, no0, no1, nz1, nz2, nz3, nz4, nz5, nz7, nz8, Classical.not_not, bz0, bz1, wi_nil, ld_0, ld_s, isIv_I, isLv_L, isRv_R, true_and, and_true, lset_0, lset_1, lset_s, avw_I, avw_L, avw_R, clr_cons, clr_nil, kst_0, kst_1, kstL_0, kstL_1, addk_I, pA_0, pA_s, pD_0, pD_s, wid_nil, wid_cons, rcv_c, putv_I, putv_L, List.length_cons, List.length_nil, List.set_cons_zero, List.set_cons_succ, not_false_eq_true, Nat.reduceMod, Nat.reduceDiv, Nat.reduceEqDiff, Nat.reduceLT, Nat.reduceLeDiff, Nat.reduceAdd, Nat.reduceSub, reduceIte, Nat.lt_irrefl, Nat.zero_ne_one, Nat.one_ne_zero, Nat.zero_add, List.nil_append, List.cons_append, Option.toList_some, Option.toList_none, forall_const, false_implies, true_implies, false_or, or_false, true_or, or_true, i_le, i_lt, i_eq, i_eq0, i_lt0, i_0le, i_0lt, i_le0, i_in1, i_cl, nI_add, pk_mul, pk_sub, i_div, i_rem, i_sh1, i_bit, i_or, i_and, i_andn, nt_le, nf_le, nt_lt, nf_lt, nt_eq, nf_eq, not_true_eq_false, and_self, and_false, false_and, eq_self, Bool.toNat_true, Bool.toNat_false, i_bool, i_bool1, Bool.false_eq_true, Bool.true_eq_false, reduceCtorEq, i_neg1, i_neg2, i_neg3, i_neg4, i_neg5, i_neg6, i_neg7, i_neg8, i_neg9, i_nega, i_negb, i_negc, i_max2, i_min2])
        exact hnx
      · rw [hb1, Bool.true_and] at hnx
        try simp (disch := omega) only [no0, no1, nz1, nz2, nz3, nz4, nz5, nz7, nz8, Classical.not_not, bz0, bz1, wi_nil, ld_0, ld_s, isIv_I, isLv_L, isRv_R, true_and, and_true, lset_0, lset_1, lset_s, avw_I, avw_L, avw_R, clr_cons, clr_nil, kst_0, kst_1, kstL_0, kstL_1, addk_I, pA_0, pA_s, pD_0, pD_s, wid_nil, wid_cons, rcv_c, putv_I, putv_L, List.length_cons, List.length_nil, List.set_cons_zero, List.set_cons_succ, not_false_eq_true, Nat.reduceMod, Nat.reduceDiv, Nat.reduceEqDiff, Nat.reduceLT, Nat.reduceLeDiff, Nat.reduceAdd, Nat.reduceSub, reduceIte, Nat.lt_irrefl, Nat.zero_ne_one, Nat.one_ne_zero, Nat.zero_add, List.nil_append, List.cons_append, Option.toList_some, Option.toList_none, forall_const, false_implies, true_implies, false_or, or_false, true_or, or_true, i_le, i_lt, i_eq, i_eq0, i_lt0, i_0le, i_0lt, i_le0, i_in1, i_cl, nI_add, pk_mul, pk_sub, i_div, i_rem, i_sh1, i_bit, i_or, i_and, i_andn, nt_le, nf_le, nt_lt, nf_lt, nt_eq, nf_eq, not_true_eq_false, and_self, and_false, false_and, eq_self, Bool.toNat_true, Bool.toNat_false, i_bool, i_bool1, Bool.false_eq_true, Bool.true_eq_false, reduceCtorEq, i_neg1, i_neg2, i_neg3, i_neg4, i_neg5, i_neg6, i_neg7, i_neg8, i_neg9, i_nega, i_negb, i_negc, i_max2, i_min2, wi_nil]
        repeat (
          first
          | refine s_X9_needPairs_0 ?_
          | refine s_X9_needPairs_5 ?_
          | refine s_X9_needPairs_12 ?_
          | refine s_X9_needPairs_15 ?_
          | refine s_X9_needPairs_17 ?_
          | refine s_X9_needPairs_31 ?_
          | refine s_X9_needPairs_32 ?_
          | refine s_X9_needPairs_48 ?_
          | refine s_X9_needPairs_49 ?_
          | refine s_X9_needPairs_76 ?_
          | refine s_X9_needPairs_82 ?_
          | refine s_X9_needPairs_94 ?_
          | refine s_X9_needPairs_100 ?_
          | refine s_X9_needPairs_107 ?_
          | refine s_X9_needPairs_108 ?_
          | refine s_X9_needPairs_115 ?_
          | refine s_X9_needPairs_123 ?_
          | refine s_X9_needPairs_128 ?_
          simp (disch := omega) only [B_X9_needPairs_0, wi_aload_n, wi_iload_n, wi_invokevirtual, cnt_8, B_X9_needPairs_5, wi_if_eq, wi_invokestatic, B_X9_needPairs_12, wi_if_ne, B_X9_needPairs_15, wi_iconst, wi_ireturn, B_X9_needPairs_17, wi_getfield, fldv_8_5, fds_8_5, wi_iaload, wi_if_ge, cnt_31, aTy_31, aLn_31, arr_31, B_X9_needPairs_31, B_X9_needPairs_32, wi_irem, B_X9_needPairs_48, B_X9_needPairs_49, wi_istore_n, wi_istore, B_X9_needPairs_54, wi_iload, wi_icmp_ge, B_X9_needPairs_76, wi_bipush, B_X9_needPairs_82, wi_iadd, B_X9_needPairs_94, B_X9_needPairs_100, wi_goto, B_X9_needPairs_107, B_X9_needPairs_108, wi_iinc, B_X9_needPairs_115, B_X9_needPairs_123, B_X9_needPairs_128, no0, no1, nz1, nz2, nz3, nz4, nz5, nz7, nz8, Classical.not_not, bz0, bz1, wi_nil, ld_0, ld_s, isIv_I, isLv_L, isRv_R, true_and, and_true, lset_0, lset_1, lset_s, avw_I, avw_L, avw_R, clr_cons, clr_nil, kst_0, kst_1, kstL_0, kstL_1, addk_I, pA_0, pA_s, pD_0, pD_s, wid_nil, wid_cons, rcv_c, putv_I, putv_L, List.length_cons, List.length_nil, List.set_cons_zero, List.set_cons_succ, not_false_eq_true, Nat.reduceMod, Nat.reduceDiv, Nat.reduceEqDiff, Nat.reduceLT, Nat.reduceLeDiff, Nat.reduceAdd, Nat.reduceSub, reduceIte, Nat.lt_irrefl, Nat.zero_ne_one, Nat.one_ne_zero, Nat.zero_add, List.nil_append, List.cons_append, Option.toList_some, Option.toList_none, forall_const, false_implies, true_implies, false_or, or_false, true_or, or_true, i_le, i_lt, i_eq, i_eq0, i_lt0, i_0le, i_0lt, i_le0, i_in1, i_cl, nI_add, pk_mul, pk_sub, i_div, i_rem, i_sh1, i_bit, i_or, i_and, i_andn, nt_le, nf_le, nt_lt, nf_lt, nt_eq, nf_eq, not_true_eq_false, and_self, and_false, false_and, eq_self, Bool.toNat_true, Bool.toNat_false, i_bool, i_bool1, Bool.false_eq_true, Bool.true_eq_false, reduceCtorEq, i_neg1, i_neg2, i_neg3, i_neg4, i_neg5, i_neg6, i_neg7, i_neg8, i_neg9, i_nega, i_negb, i_negc, i_max2, i_min2])
        refine c_rowAt ht hr (by omega) ?_
        try simp (disch := omega) only [no0, no1, nz1, nz2, nz3, nz4, nz5, nz7, nz8, Classical.not_not, bz0, bz1, wi_nil, ld_0, ld_s, isIv_I, isLv_L, isRv_R, true_and, and_true, lset_0, lset_1, lset_s, avw_I, avw_L, avw_R, clr_cons, clr_nil, kst_0, kst_1, kstL_0, kstL_1, addk_I, pA_0, pA_s, pD_0, pD_s, wid_nil, wid_cons, rcv_c, putv_I, putv_L, List.length_cons, List.length_nil, List.set_cons_zero, List.set_cons_succ, not_false_eq_true, Nat.reduceMod, Nat.reduceDiv, Nat.reduceEqDiff, Nat.reduceLT, Nat.reduceLeDiff, Nat.reduceAdd, Nat.reduceSub, reduceIte, Nat.lt_irrefl, Nat.zero_ne_one, Nat.one_ne_zero, Nat.zero_add, List.nil_append, List.cons_append, Option.toList_some, Option.toList_none, forall_const, false_implies, true_implies, false_or, or_false, true_or, or_true, i_le, i_lt, i_eq, i_eq0, i_lt0, i_0le, i_0lt, i_le0, i_in1, i_cl, nI_add, pk_mul, pk_sub, i_div, i_rem, i_sh1, i_bit, i_or, i_and, i_andn, nt_le, nf_le, nt_lt, nf_lt, nt_eq, nf_eq, not_true_eq_false, and_self, and_false, false_and, eq_self, Bool.toNat_true, Bool.toNat_false, i_bool, i_bool1, Bool.false_eq_true, Bool.true_eq_false, reduceCtorEq, i_neg1, i_neg2, i_neg3, i_neg4, i_neg5, i_neg6, i_neg7, i_neg8, i_neg9, i_nega, i_negb, i_negc, i_max2, i_min2, wi_nil]
        repeat (
          first
          | refine s_X9_needPairs_0 ?_
          | refine s_X9_needPairs_5 ?_
          | refine s_X9_needPairs_12 ?_
          | refine s_X9_needPairs_15 ?_
          | refine s_X9_needPairs_17 ?_
          | refine s_X9_needPairs_31 ?_
          | refine s_X9_needPairs_32 ?_
          | refine s_X9_needPairs_48 ?_
          | refine s_X9_needPairs_49 ?_
          | refine s_X9_needPairs_76 ?_
          | refine s_X9_needPairs_82 ?_
          | refine s_X9_needPairs_94 ?_
          | refine s_X9_needPairs_100 ?_
          | refine s_X9_needPairs_107 ?_
          | refine s_X9_needPairs_108 ?_
          | refine s_X9_needPairs_115 ?_
          | refine s_X9_needPairs_123 ?_
          | refine s_X9_needPairs_128 ?_
          simp (disch := omega) only [B_X9_needPairs_0, wi_aload_n, wi_iload_n, wi_invokevirtual, cnt_8, B_X9_needPairs_5, wi_if_eq, wi_invokestatic, B_X9_needPairs_12, wi_if_ne, B_X9_needPairs_15, wi_iconst, wi_ireturn, B_X9_needPairs_17, wi_getfield, fldv_8_5, fds_8_5, wi_iaload, wi_if_ge, cnt_31, aTy_31, aLn_31, arr_31, B_X9_needPairs_31, B_X9_needPairs_32, wi_irem, B_X9_needPairs_48, B_X9_needPairs_49, wi_istore_n, wi_istore, B_X9_needPairs_54, wi_iload, wi_icmp_ge, B_X9_needPairs_76, wi_bipush, B_X9_needPairs_82, wi_iadd, B_X9_needPairs_94, B_X9_needPairs_100, wi_goto, B_X9_needPairs_107, B_X9_needPairs_108, wi_iinc, B_X9_needPairs_115, B_X9_needPairs_123, B_X9_needPairs_128, no0, no1, nz1, nz2, nz3, nz4, nz5, nz7, nz8, Classical.not_not, bz0, bz1, wi_nil, ld_0, ld_s, isIv_I, isLv_L, isRv_R, true_and, and_true, lset_0, lset_1, lset_s, avw_I, avw_L, avw_R, clr_cons, clr_nil, kst_0, kst_1, kstL_0, kstL_1, addk_I, pA_0, pA_s, pD_0, pD_s, wid_nil, wid_cons, rcv_c, putv_I, putv_L, List.length_cons, List.length_nil, List.set_cons_zero, List.set_cons_succ, not_false_eq_true, Nat.reduceMod, Nat.reduceDiv, Nat.reduceEqDiff, Nat.reduceLT, Nat.reduceLeDiff, Nat.reduceAdd, Nat.reduceSub, reduceIte, Nat.lt_irrefl, Nat.zero_ne_one, Nat.one_ne_zero, Nat.zero_add, List.nil_append, List.cons_append, Option.toList_some, Option.toList_none, forall_const, false_implies, true_implies, false_or, or_false, true_or, or_true, i_le, i_lt, i_eq, i_eq0, i_lt0, i_0le, i_0lt, i_le0, i_in1, i_cl, nI_add, pk_mul, pk_sub, i_div, i_rem, i_sh1, i_bit, i_or, i_and, i_andn, nt_le, nf_le, nt_lt, nf_lt, nt_eq, nf_eq, not_true_eq_false, and_self, and_false, false_and, eq_self, Bool.toNat_true, Bool.toNat_false, i_bool, i_bool1, Bool.false_eq_true, Bool.true_eq_false, reduceCtorEq, i_neg1, i_neg2, i_neg3, i_neg4, i_neg5, i_neg6, i_neg7, i_neg8, i_neg9, i_nega, i_negb, i_negc, i_max2, i_min2])
        refine c_in (b := decide (0 ≤ (rc r (2 * j + 1)).toInt ∧ (rc r (2 * j + 1)).toInt ≤ 20)) (by rw [decide_eq_true_eq, Int32.le_iff_toInt_le, Int32.le_iff_toInt_le, e0, e20]) ?_
        cases hb2 : decide (0 ≤ (rc r (2 * j + 1)).toInt ∧ (rc r (2 * j + 1)).toInt ≤ 20)
        · rw [hb2] at hnx
          try simp (disch := omega) only [no0, no1, nz1, nz2, nz3, nz4, nz5, nz7, nz8, Classical.not_not, bz0, bz1, wi_nil, ld_0, ld_s, isIv_I, isLv_L, isRv_R, true_and, and_true, lset_0, lset_1, lset_s, avw_I, avw_L, avw_R, clr_cons, clr_nil, kst_0, kst_1, kstL_0, kstL_1, addk_I, pA_0, pA_s, pD_0, pD_s, wid_nil, wid_cons, rcv_c, putv_I, putv_L, List.length_cons, List.length_nil, List.set_cons_zero, List.set_cons_succ, not_false_eq_true, Nat.reduceMod, Nat.reduceDiv, Nat.reduceEqDiff, Nat.reduceLT, Nat.reduceLeDiff, Nat.reduceAdd, Nat.reduceSub, reduceIte, Nat.lt_irrefl, Nat.zero_ne_one, Nat.one_ne_zero, Nat.zero_add, List.nil_append, List.cons_append, Option.toList_some, Option.toList_none, forall_const, false_implies, true_implies, false_or, or_false, true_or, or_true, i_le, i_lt, i_eq, i_eq0, i_lt0, i_0le, i_0lt, i_le0, i_in1, i_cl, nI_add, pk_mul, pk_sub, i_div, i_rem, i_sh1, i_bit, i_or, i_and, i_andn, nt_le, nf_le, nt_lt, nf_lt, nt_eq, nf_eq, not_true_eq_false, and_self, and_false, false_and, eq_self, Bool.toNat_true, Bool.toNat_false, i_bool, i_bool1, Bool.false_eq_true, Bool.true_eq_false, reduceCtorEq, i_neg1, i_neg2, i_neg3, i_neg4, i_neg5, i_neg6, i_neg7, i_neg8, i_neg9, i_nega, i_negb, i_negc, i_max2, i_min2, wi_nil]
          repeat (
            first
            | refine s_X9_needPairs_0 ?_
            | refine s_X9_needPairs_5 ?_
            | refine s_X9_needPairs_12 ?_
            | refine s_X9_needPairs_15 ?_
            | refine s_X9_needPairs_17 ?_
            | refine s_X9_needPairs_31 ?_
            | refine s_X9_needPairs_32 ?_
            | refine s_X9_needPairs_48 ?_
            | refine s_X9_needPairs_49 ?_
            | refine s_X9_needPairs_76 ?_
            | refine s_X9_needPairs_82 ?_
            | refine s_X9_needPairs_94 ?_
            | refine s_X9_needPairs_100 ?_
            | refine s_X9_needPairs_107 ?_
            | refine s_X9_needPairs_108 ?_
            | refine s_X9_needPairs_115 ?_
            | refine s_X9_needPairs_123 ?_
            | refine s_X9_needPairs_128 ?_
            simp (disch := omega) only [B_X9_needPairs_0, wi_aload_n, wi_iload_n, wi_invokevirtual, cnt_8, B_X9_needPairs_5, wi_if_eq, wi_invokestatic, B_X9_needPairs_12, wi_if_ne, B_X9_needPairs_15, wi_iconst, wi_ireturn, B_X9_needPairs_17, wi_getfield, fldv_8_5, fds_8_5, wi_iaload, wi_if_ge, cnt_31, aTy_31, aLn_31, arr_31, B_X9_needPairs_31, B_X9_needPairs_32, wi_irem, B_X9_needPairs_48, B_X9_needPairs_49, wi_istore_n, wi_istore, B_X9_needPairs_54, wi_iload, wi_icmp_ge, B_X9_needPairs_76, wi_bipush, B_X9_needPairs_82, wi_iadd, B_X9_needPairs_94, B_X9_needPairs_100, wi_goto, B_X9_needPairs_107, B_X9_needPairs_108, wi_iinc, B_X9_needPairs_115, B_X9_needPairs_123, B_X9_needPairs_128, no0, no1, nz1, nz2, nz3, nz4, nz5, nz7, nz8, Classical.not_not, bz0, bz1, wi_nil, ld_0, ld_s, isIv_I, isLv_L, isRv_R, true_and, and_true, lset_0, lset_1, lset_s, avw_I, avw_L, avw_R, clr_cons, clr_nil, kst_0, kst_1, kstL_0, kstL_1, addk_I, pA_0, pA_s, pD_0, pD_s, wid_nil, wid_cons, rcv_c, putv_I, putv_L, List.length_cons, List.length_nil, List.set_cons_zero, List.set_cons_succ, not_false_eq_true, Nat.reduceMod, Nat.reduceDiv, Nat.reduceEqDiff, Nat.reduceLT, Nat.reduceLeDiff, Nat.reduceAdd, Nat.reduceSub, reduceIte, Nat.lt_irrefl, Nat.zero_ne_one, Nat.one_ne_zero, Nat.zero_add, List.nil_append, List.cons_append, Option.toList_some, Option.toList_none, forall_const, false_implies, true_implies, false_or, or_false, true_or, or_true, i_le, i_lt, i_eq, i_eq0, i_lt0, i_0le, i_0lt, i_le0, i_in1, i_cl, nI_add, pk_mul, pk_sub, i_div, i_rem, i_sh1, i_bit, i_or, i_and, i_andn, nt_le, nf_le, nt_lt, nf_lt, nt_eq, nf_eq, not_true_eq_false, and_self, and_false, false_and, eq_self, Bool.toNat_true, Bool.toNat_false, i_bool, i_bool1, Bool.false_eq_true, Bool.true_eq_false, reduceCtorEq, i_neg1, i_neg2, i_neg3, i_neg4, i_neg5, i_neg6, i_neg7, i_neg8, i_neg9, i_nega, i_negb, i_negc, i_max2, i_min2])
          exact hnx
        · rw [hb2] at hnx
          try simp (disch := omega) only [no0, no1, nz1, nz2, nz3, nz4, nz5, nz7, nz8, Classical.not_not, bz0, bz1, wi_nil, ld_0, ld_s, isIv_I, isLv_L, isRv_R, true_and, and_true, lset_0, lset_1, lset_s, avw_I, avw_L, avw_R, clr_cons, clr_nil, kst_0, kst_1, kstL_0, kstL_1, addk_I, pA_0, pA_s, pD_0, pD_s, wid_nil, wid_cons, rcv_c, putv_I, putv_L, List.length_cons, List.length_nil, List.set_cons_zero, List.set_cons_succ, not_false_eq_true, Nat.reduceMod, Nat.reduceDiv, Nat.reduceEqDiff, Nat.reduceLT, Nat.reduceLeDiff, Nat.reduceAdd, Nat.reduceSub, reduceIte, Nat.lt_irrefl, Nat.zero_ne_one, Nat.one_ne_zero, Nat.zero_add, List.nil_append, List.cons_append, Option.toList_some, Option.toList_none, forall_const, false_implies, true_implies, false_or, or_false, true_or, or_true, i_le, i_lt, i_eq, i_eq0, i_lt0, i_0le, i_0lt, i_le0, i_in1, i_cl, nI_add, pk_mul, pk_sub, i_div, i_rem, i_sh1, i_bit, i_or, i_and, i_andn, nt_le, nf_le, nt_lt, nf_lt, nt_eq, nf_eq, not_true_eq_false, and_self, and_false, false_and, eq_self, Bool.toNat_true, Bool.toNat_false, i_bool, i_bool1, Bool.false_eq_true, Bool.true_eq_false, reduceCtorEq, i_neg1, i_neg2, i_neg3, i_neg4, i_neg5, i_neg6, i_neg7, i_neg8, i_neg9, i_nega, i_negb, i_negc, i_max2, i_min2, wi_nil]
          repeat (
            first
            | refine s_X9_needPairs_0 ?_
            | refine s_X9_needPairs_5 ?_
            | refine s_X9_needPairs_12 ?_
            | refine s_X9_needPairs_15 ?_
            | refine s_X9_needPairs_17 ?_
            | refine s_X9_needPairs_31 ?_
            | refine s_X9_needPairs_32 ?_
            | refine s_X9_needPairs_48 ?_
            | refine s_X9_needPairs_49 ?_
            | refine s_X9_needPairs_76 ?_
            | refine s_X9_needPairs_82 ?_
            | refine s_X9_needPairs_94 ?_
            | refine s_X9_needPairs_100 ?_
            | refine s_X9_needPairs_107 ?_
            | refine s_X9_needPairs_108 ?_
            | refine s_X9_needPairs_115 ?_
            | refine s_X9_needPairs_123 ?_
            | refine s_X9_needPairs_128 ?_
            simp (disch := omega) only [B_X9_needPairs_0, wi_aload_n, wi_iload_n, wi_invokevirtual, cnt_8, B_X9_needPairs_5, wi_if_eq, wi_invokestatic, B_X9_needPairs_12, wi_if_ne, B_X9_needPairs_15, wi_iconst, wi_ireturn, B_X9_needPairs_17, wi_getfield, fldv_8_5, fds_8_5, wi_iaload, wi_if_ge, cnt_31, aTy_31, aLn_31, arr_31, B_X9_needPairs_31, B_X9_needPairs_32, wi_irem, B_X9_needPairs_48, B_X9_needPairs_49, wi_istore_n, wi_istore, B_X9_needPairs_54, wi_iload, wi_icmp_ge, B_X9_needPairs_76, wi_bipush, B_X9_needPairs_82, wi_iadd, B_X9_needPairs_94, B_X9_needPairs_100, wi_goto, B_X9_needPairs_107, B_X9_needPairs_108, wi_iinc, B_X9_needPairs_115, B_X9_needPairs_123, B_X9_needPairs_128, no0, no1, nz1, nz2, nz3, nz4, nz5, nz7, nz8, Classical.not_not, bz0, bz1, wi_nil, ld_0, ld_s, isIv_I, isLv_L, isRv_R, true_and, and_true, lset_0, lset_1, lset_s, avw_I, avw_L, avw_R, clr_cons, clr_nil, kst_0, kst_1, kstL_0, kstL_1, addk_I, pA_0, pA_s, pD_0, pD_s, wid_nil, wid_cons, rcv_c, putv_I, putv_L, List.length_cons, List.length_nil, List.set_cons_zero, List.set_cons_succ, not_false_eq_true, Nat.reduceMod, Nat.reduceDiv, Nat.reduceEqDiff, Nat.reduceLT, Nat.reduceLeDiff, Nat.reduceAdd, Nat.reduceSub, reduceIte, Nat.lt_irrefl, Nat.zero_ne_one, Nat.one_ne_zero, Nat.zero_add, List.nil_append, List.cons_append, Option.toList_some, Option.toList_none, forall_const, false_implies, true_implies, false_or, or_false, true_or, or_true, i_le, i_lt, i_eq, i_eq0, i_lt0, i_0le, i_0lt, i_le0, i_in1, i_cl, nI_add, pk_mul, pk_sub, i_div, i_rem, i_sh1, i_bit, i_or, i_and, i_andn, nt_le, nf_le, nt_lt, nf_lt, nt_eq, nf_eq, not_true_eq_false, and_self, and_false, false_and, eq_self, Bool.toNat_true, Bool.toNat_false, i_bool, i_bool1, Bool.false_eq_true, Bool.true_eq_false, reduceCtorEq, i_neg1, i_neg2, i_neg3, i_neg4, i_neg5, i_neg6, i_neg7, i_neg8, i_neg9, i_nega, i_negb, i_negc, i_max2, i_min2])
          exact hnx
theorem np_even {a b h : Nat} (hm : YrM S 40 Y) (hn5 : Y 6 0 ≤ 5) (ht : Tb S 31 32 6 40 rs rc) (ha : a < Y 6 0) (hb : b < 6) (hh : h ≤ 20) (hz : rs b = 2 * h + 1) (q1 : prB rc b h = true → P (some (aI (nI 0))) S) (q0 : prB rc b h = false → P (some (aI (-nI 3))) (mRef 3 S)) : wpM (d + 4) mX9_needPairs [aR 8 0, aI (nI a), aI (nI b)] S P := by
  have hs := (ht b hb).1
  rw [hz, sz_s] at hs
  refine x_entry (ls2 := [aR 8 0, aI (nI a), aI (nI b), aU, aU]) (Nat.le_of_ble_eq_true rfl) pl_9 rfl (Nat.le_of_ble_eq_true rfl) ?_
  try simp (disch := omega) only [no0, no1, nz1, nz2, nz3, nz4, nz5, nz7, nz8, Classical.not_not, bz0, bz1, wi_nil, ld_0, ld_s, isIv_I, isLv_L, isRv_R, true_and, and_true, lset_0, lset_1, lset_s, avw_I, avw_L, avw_R, clr_cons, clr_nil, kst_0, kst_1, kstL_0, kstL_1, addk_I, pA_0, pA_s, pD_0, pD_s, wid_nil, wid_cons, rcv_c, putv_I, putv_L, List.length_cons, List.length_nil, List.set_cons_zero, List.set_cons_succ, not_false_eq_true, Nat.reduceMod, Nat.reduceDiv, Nat.reduceEqDiff, Nat.reduceLT, Nat.reduceLeDiff, Nat.reduceAdd, Nat.reduceSub, reduceIte, Nat.lt_irrefl, Nat.zero_ne_one, Nat.one_ne_zero, Nat.zero_add, List.nil_append, List.cons_append, Option.toList_some, Option.toList_none, forall_const, false_implies, true_implies, false_or, or_false, true_or, or_true, i_le, i_lt, i_eq, i_eq0, i_lt0, i_0le, i_0lt, i_le0, i_in1, i_cl, nI_add, pk_mul, pk_sub, i_div, i_rem, i_sh1, i_bit, i_or, i_and, i_andn, nt_le, nf_le, nt_lt, nf_lt, nt_eq, nf_eq, not_true_eq_false, and_self, and_false, false_and, eq_self, Bool.toNat_true, Bool.toNat_false, i_bool, i_bool1, Bool.false_eq_true, Bool.true_eq_false, reduceCtorEq, i_neg1, i_neg2, i_neg3, i_neg4, i_neg5, i_neg6, i_neg7, i_neg8, i_neg9, i_nega, i_negb, i_negc, i_max2, i_min2, wi_nil]
  repeat (
    first
    | refine s_X9_needPairs_0 ?_
    | refine s_X9_needPairs_5 ?_
    | refine s_X9_needPairs_12 ?_
    | refine s_X9_needPairs_15 ?_
    | refine s_X9_needPairs_17 ?_
    | refine s_X9_needPairs_31 ?_
    | refine s_X9_needPairs_32 ?_
    | refine s_X9_needPairs_48 ?_
    | refine s_X9_needPairs_49 ?_
    | refine s_X9_needPairs_76 ?_
    | refine s_X9_needPairs_82 ?_
    | refine s_X9_needPairs_94 ?_
    | refine s_X9_needPairs_100 ?_
    | refine s_X9_needPairs_107 ?_
    | refine s_X9_needPairs_108 ?_
    | refine s_X9_needPairs_115 ?_
    | refine s_X9_needPairs_123 ?_
    | refine s_X9_needPairs_128 ?_
    simp (disch := omega) only [B_X9_needPairs_0, wi_aload_n, wi_iload_n, wi_invokevirtual, cnt_8, B_X9_needPairs_5, wi_if_eq, wi_invokestatic, B_X9_needPairs_12, wi_if_ne, B_X9_needPairs_15, wi_iconst, wi_ireturn, B_X9_needPairs_17, wi_getfield, fldv_8_5, fds_8_5, wi_iaload, wi_if_ge, cnt_31, aTy_31, aLn_31, arr_31, B_X9_needPairs_31, B_X9_needPairs_32, wi_irem, B_X9_needPairs_48, B_X9_needPairs_49, wi_istore_n, wi_istore, B_X9_needPairs_54, wi_iload, wi_icmp_ge, B_X9_needPairs_76, wi_bipush, B_X9_needPairs_82, wi_iadd, B_X9_needPairs_94, B_X9_needPairs_100, wi_goto, B_X9_needPairs_107, B_X9_needPairs_108, wi_iinc, B_X9_needPairs_115, B_X9_needPairs_123, B_X9_needPairs_128, no0, no1, nz1, nz2, nz3, nz4, nz5, nz7, nz8, Classical.not_not, bz0, bz1, wi_nil, ld_0, ld_s, isIv_I, isLv_L, isRv_R, true_and, and_true, lset_0, lset_1, lset_s, avw_I, avw_L, avw_R, clr_cons, clr_nil, kst_0, kst_1, kstL_0, kstL_1, addk_I, pA_0, pA_s, pD_0, pD_s, wid_nil, wid_cons, rcv_c, putv_I, putv_L, List.length_cons, List.length_nil, List.set_cons_zero, List.set_cons_succ, not_false_eq_true, Nat.reduceMod, Nat.reduceDiv, Nat.reduceEqDiff, Nat.reduceLT, Nat.reduceLeDiff, Nat.reduceAdd, Nat.reduceSub, reduceIte, Nat.lt_irrefl, Nat.zero_ne_one, Nat.one_ne_zero, Nat.zero_add, List.nil_append, List.cons_append, Option.toList_some, Option.toList_none, forall_const, false_implies, true_implies, false_or, or_false, true_or, or_true, i_le, i_lt, i_eq, i_eq0, i_lt0, i_0le, i_0lt, i_le0, i_in1, i_cl, nI_add, pk_mul, pk_sub, i_div, i_rem, i_sh1, i_bit, i_or, i_and, i_andn, nt_le, nf_le, nt_lt, nf_lt, nt_eq, nf_eq, not_true_eq_false, and_self, and_false, false_and, eq_self, Bool.toNat_true, Bool.toNat_false, i_bool, i_bool1, Bool.false_eq_true, Bool.true_eq_false, reduceCtorEq, i_neg1, i_neg2, i_neg3, i_neg4, i_neg5, i_neg6, i_neg7, i_neg8, i_neg9, i_nega, i_negb, i_negc, i_max2, i_min2])
  refine c_mDeed hm hn5 ?_
  try simp (disch := omega) only [no0, no1, nz1, nz2, nz3, nz4, nz5, nz7, nz8, Classical.not_not, bz0, bz1, wi_nil, ld_0, ld_s, isIv_I, isLv_L, isRv_R, true_and, and_true, lset_0, lset_1, lset_s, avw_I, avw_L, avw_R, clr_cons, clr_nil, kst_0, kst_1, kstL_0, kstL_1, addk_I, pA_0, pA_s, pD_0, pD_s, wid_nil, wid_cons, rcv_c, putv_I, putv_L, List.length_cons, List.length_nil, List.set_cons_zero, List.set_cons_succ, not_false_eq_true, Nat.reduceMod, Nat.reduceDiv, Nat.reduceEqDiff, Nat.reduceLT, Nat.reduceLeDiff, Nat.reduceAdd, Nat.reduceSub, reduceIte, Nat.lt_irrefl, Nat.zero_ne_one, Nat.one_ne_zero, Nat.zero_add, List.nil_append, List.cons_append, Option.toList_some, Option.toList_none, forall_const, false_implies, true_implies, false_or, or_false, true_or, or_true, i_le, i_lt, i_eq, i_eq0, i_lt0, i_0le, i_0lt, i_le0, i_in1, i_cl, nI_add, pk_mul, pk_sub, i_div, i_rem, i_sh1, i_bit, i_or, i_and, i_andn, nt_le, nf_le, nt_lt, nf_lt, nt_eq, nf_eq, not_true_eq_false, and_self, and_false, false_and, eq_self, Bool.toNat_true, Bool.toNat_false, i_bool, i_bool1, Bool.false_eq_true, Bool.true_eq_false, reduceCtorEq, i_neg1, i_neg2, i_neg3, i_neg4, i_neg5, i_neg6, i_neg7, i_neg8, i_neg9, i_nega, i_negb, i_negc, i_max2, i_min2, (inb_t ha (by omega)), wi_nil]
  repeat (
    first
    | refine s_X9_needPairs_0 ?_
    | refine s_X9_needPairs_5 ?_
    | refine s_X9_needPairs_12 ?_
    | refine s_X9_needPairs_15 ?_
    | refine s_X9_needPairs_17 ?_
    | refine s_X9_needPairs_31 ?_
    | refine s_X9_needPairs_32 ?_
    | refine s_X9_needPairs_48 ?_
    | refine s_X9_needPairs_49 ?_
    | refine s_X9_needPairs_76 ?_
    | refine s_X9_needPairs_82 ?_
    | refine s_X9_needPairs_94 ?_
    | refine s_X9_needPairs_100 ?_
    | refine s_X9_needPairs_107 ?_
    | refine s_X9_needPairs_108 ?_
    | refine s_X9_needPairs_115 ?_
    | refine s_X9_needPairs_123 ?_
    | refine s_X9_needPairs_128 ?_
    simp (disch := omega) only [B_X9_needPairs_0, wi_aload_n, wi_iload_n, wi_invokevirtual, cnt_8, B_X9_needPairs_5, wi_if_eq, wi_invokestatic, B_X9_needPairs_12, wi_if_ne, B_X9_needPairs_15, wi_iconst, wi_ireturn, B_X9_needPairs_17, wi_getfield, fldv_8_5, fds_8_5, wi_iaload, wi_if_ge, cnt_31, aTy_31, aLn_31, arr_31, B_X9_needPairs_31, B_X9_needPairs_32, wi_irem, B_X9_needPairs_48, B_X9_needPairs_49, wi_istore_n, wi_istore, B_X9_needPairs_54, wi_iload, wi_icmp_ge, B_X9_needPairs_76, wi_bipush, B_X9_needPairs_82, wi_iadd, B_X9_needPairs_94, B_X9_needPairs_100, wi_goto, B_X9_needPairs_107, B_X9_needPairs_108, wi_iinc, B_X9_needPairs_115, B_X9_needPairs_123, B_X9_needPairs_128, no0, no1, nz1, nz2, nz3, nz4, nz5, nz7, nz8, Classical.not_not, bz0, bz1, wi_nil, ld_0, ld_s, isIv_I, isLv_L, isRv_R, true_and, and_true, lset_0, lset_1, lset_s, avw_I, avw_L, avw_R, clr_cons, clr_nil, kst_0, kst_1, kstL_0, kstL_1, addk_I, pA_0, pA_s, pD_0, pD_s, wid_nil, wid_cons, rcv_c, putv_I, putv_L, List.length_cons, List.length_nil, List.set_cons_zero, List.set_cons_succ, not_false_eq_true, Nat.reduceMod, Nat.reduceDiv, Nat.reduceEqDiff, Nat.reduceLT, Nat.reduceLeDiff, Nat.reduceAdd, Nat.reduceSub, reduceIte, Nat.lt_irrefl, Nat.zero_ne_one, Nat.one_ne_zero, Nat.zero_add, List.nil_append, List.cons_append, Option.toList_some, Option.toList_none, forall_const, false_implies, true_implies, false_or, or_false, true_or, or_true, i_le, i_lt, i_eq, i_eq0, i_lt0, i_0le, i_0lt, i_le0, i_in1, i_cl, nI_add, pk_mul, pk_sub, i_div, i_rem, i_sh1, i_bit, i_or, i_and, i_andn, nt_le, nf_le, nt_lt, nf_lt, nt_eq, nf_eq, not_true_eq_false, and_self, and_false, false_and, eq_self, Bool.toNat_true, Bool.toNat_false, i_bool, i_bool1, Bool.false_eq_true, Bool.true_eq_false, reduceCtorEq, i_neg1, i_neg2, i_neg3, i_neg4, i_neg5, i_neg6, i_neg7, i_neg8, i_neg9, i_nega, i_negb, i_negc, i_max2, i_min2, (inb_t ha (by omega))])
  refine c_mRow ?_
  try simp (disch := omega) only [no0, no1, nz1, nz2, nz3, nz4, nz5, nz7, nz8, Classical.not_not, bz0, bz1, wi_nil, ld_0, ld_s, isIv_I, isLv_L, isRv_R, true_and, and_true, lset_0, lset_1, lset_s, avw_I, avw_L, avw_R, clr_cons, clr_nil, kst_0, kst_1, kstL_0, kstL_1, addk_I, pA_0, pA_s, pD_0, pD_s, wid_nil, wid_cons, rcv_c, putv_I, putv_L, List.length_cons, List.length_nil, List.set_cons_zero, List.set_cons_succ, not_false_eq_true, Nat.reduceMod, Nat.reduceDiv, Nat.reduceEqDiff, Nat.reduceLT, Nat.reduceLeDiff, Nat.reduceAdd, Nat.reduceSub, reduceIte, Nat.lt_irrefl, Nat.zero_ne_one, Nat.one_ne_zero, Nat.zero_add, List.nil_append, List.cons_append, Option.toList_some, Option.toList_none, forall_const, false_implies, true_implies, false_or, or_false, true_or, or_true, i_le, i_lt, i_eq, i_eq0, i_lt0, i_0le, i_0lt, i_le0, i_in1, i_cl, nI_add, pk_mul, pk_sub, i_div, i_rem, i_sh1, i_bit, i_or, i_and, i_andn, nt_le, nf_le, nt_lt, nf_lt, nt_eq, nf_eq, not_true_eq_false, and_self, and_false, false_and, eq_self, Bool.toNat_true, Bool.toNat_false, i_bool, i_bool1, Bool.false_eq_true, Bool.true_eq_false, reduceCtorEq, i_neg1, i_neg2, i_neg3, i_neg4, i_neg5, i_neg6, i_neg7, i_neg8, i_neg9, i_nega, i_negb, i_negc, i_max2, i_min2, (inb_t hb (by decide)), hs, wi_nil]
  repeat (
    first
    | refine s_X9_needPairs_0 ?_
    | refine s_X9_needPairs_5 ?_
    | refine s_X9_needPairs_12 ?_
    | refine s_X9_needPairs_15 ?_
    | refine s_X9_needPairs_17 ?_
    | refine s_X9_needPairs_31 ?_
    | refine s_X9_needPairs_32 ?_
    | refine s_X9_needPairs_48 ?_
    | refine s_X9_needPairs_49 ?_
    | refine s_X9_needPairs_76 ?_
    | refine s_X9_needPairs_82 ?_
    | refine s_X9_needPairs_94 ?_
    | refine s_X9_needPairs_100 ?_
    | refine s_X9_needPairs_107 ?_
    | refine s_X9_needPairs_108 ?_
    | refine s_X9_needPairs_115 ?_
    | refine s_X9_needPairs_123 ?_
    | refine s_X9_needPairs_128 ?_
    simp (disch := omega) only [B_X9_needPairs_0, wi_aload_n, wi_iload_n, wi_invokevirtual, cnt_8, B_X9_needPairs_5, wi_if_eq, wi_invokestatic, B_X9_needPairs_12, wi_if_ne, B_X9_needPairs_15, wi_iconst, wi_ireturn, B_X9_needPairs_17, wi_getfield, fldv_8_5, fds_8_5, wi_iaload, wi_if_ge, cnt_31, aTy_31, aLn_31, arr_31, B_X9_needPairs_31, B_X9_needPairs_32, wi_irem, B_X9_needPairs_48, B_X9_needPairs_49, wi_istore_n, wi_istore, B_X9_needPairs_54, wi_iload, wi_icmp_ge, B_X9_needPairs_76, wi_bipush, B_X9_needPairs_82, wi_iadd, B_X9_needPairs_94, B_X9_needPairs_100, wi_goto, B_X9_needPairs_107, B_X9_needPairs_108, wi_iinc, B_X9_needPairs_115, B_X9_needPairs_123, B_X9_needPairs_128, no0, no1, nz1, nz2, nz3, nz4, nz5, nz7, nz8, Classical.not_not, bz0, bz1, wi_nil, ld_0, ld_s, isIv_I, isLv_L, isRv_R, true_and, and_true, lset_0, lset_1, lset_s, avw_I, avw_L, avw_R, clr_cons, clr_nil, kst_0, kst_1, kstL_0, kstL_1, addk_I, pA_0, pA_s, pD_0, pD_s, wid_nil, wid_cons, rcv_c, putv_I, putv_L, List.length_cons, List.length_nil, List.set_cons_zero, List.set_cons_succ, not_false_eq_true, Nat.reduceMod, Nat.reduceDiv, Nat.reduceEqDiff, Nat.reduceLT, Nat.reduceLeDiff, Nat.reduceAdd, Nat.reduceSub, reduceIte, Nat.lt_irrefl, Nat.zero_ne_one, Nat.one_ne_zero, Nat.zero_add, List.nil_append, List.cons_append, Option.toList_some, Option.toList_none, forall_const, false_implies, true_implies, false_or, or_false, true_or, or_true, i_le, i_lt, i_eq, i_eq0, i_lt0, i_0le, i_0lt, i_le0, i_in1, i_cl, nI_add, pk_mul, pk_sub, i_div, i_rem, i_sh1, i_bit, i_or, i_and, i_andn, nt_le, nf_le, nt_lt, nf_lt, nt_eq, nf_eq, not_true_eq_false, and_self, and_false, false_and, eq_self, Bool.toNat_true, Bool.toNat_false, i_bool, i_bool1, Bool.false_eq_true, Bool.true_eq_false, reduceCtorEq, i_neg1, i_neg2, i_neg3, i_neg4, i_neg5, i_neg6, i_neg7, i_neg8, i_neg9, i_nega, i_negb, i_negc, i_max2, i_min2, (inb_t hb (by decide)), hs])
  refine l_needP ht hb hz hh ?_ h 0 (by omega)
  cases hp : prB rc b h
  · try simp (disch := omega) only [no0, no1, nz1, nz2, nz3, nz4, nz5, nz7, nz8, Classical.not_not, bz0, bz1, wi_nil, ld_0, ld_s, isIv_I, isLv_L, isRv_R, true_and, and_true, lset_0, lset_1, lset_s, avw_I, avw_L, avw_R, clr_cons, clr_nil, kst_0, kst_1, kstL_0, kstL_1, addk_I, pA_0, pA_s, pD_0, pD_s, wid_nil, wid_cons, rcv_c, putv_I, putv_L, List.length_cons, List.length_nil, List.set_cons_zero, List.set_cons_succ, not_false_eq_true, Nat.reduceMod, Nat.reduceDiv, Nat.reduceEqDiff, Nat.reduceLT, Nat.reduceLeDiff, Nat.reduceAdd, Nat.reduceSub, reduceIte, Nat.lt_irrefl, Nat.zero_ne_one, Nat.one_ne_zero, Nat.zero_add, List.nil_append, List.cons_append, Option.toList_some, Option.toList_none, forall_const, false_implies, true_implies, false_or, or_false, true_or, or_true, i_le, i_lt, i_eq, i_eq0, i_lt0, i_0le, i_0lt, i_le0, i_in1, i_cl, nI_add, pk_mul, pk_sub, i_div, i_rem, i_sh1, i_bit, i_or, i_and, i_andn, nt_le, nf_le, nt_lt, nf_lt, nt_eq, nf_eq, not_true_eq_false, and_self, and_false, false_and, eq_self, Bool.toNat_true, Bool.toNat_false, i_bool, i_bool1, Bool.false_eq_true, Bool.true_eq_false, reduceCtorEq, i_neg1, i_neg2, i_neg3, i_neg4, i_neg5, i_neg6, i_neg7, i_neg8, i_neg9, i_nega, i_negb, i_negc, i_max2, i_min2, wi_nil]
    repeat (
      first
      | refine s_X9_needPairs_0 ?_
      | refine s_X9_needPairs_5 ?_
      | refine s_X9_needPairs_12 ?_
      | refine s_X9_needPairs_15 ?_
      | refine s_X9_needPairs_17 ?_
      | refine s_X9_needPairs_31 ?_
      | refine s_X9_needPairs_32 ?_
      | refine s_X9_needPairs_48 ?_
      | refine s_X9_needPairs_49 ?_
      | refine s_X9_needPairs_76 ?_
      | refine s_X9_needPairs_82 ?_
      | refine s_X9_needPairs_94 ?_
      | refine s_X9_needPairs_100 ?_
      | refine s_X9_needPairs_107 ?_
      | refine s_X9_needPairs_108 ?_
      | refine s_X9_needPairs_115 ?_
      | refine s_X9_needPairs_123 ?_
      | refine s_X9_needPairs_128 ?_
      simp (disch := omega) only [B_X9_needPairs_0, wi_aload_n, wi_iload_n, wi_invokevirtual, cnt_8, B_X9_needPairs_5, wi_if_eq, wi_invokestatic, B_X9_needPairs_12, wi_if_ne, B_X9_needPairs_15, wi_iconst, wi_ireturn, B_X9_needPairs_17, wi_getfield, fldv_8_5, fds_8_5, wi_iaload, wi_if_ge, cnt_31, aTy_31, aLn_31, arr_31, B_X9_needPairs_31, B_X9_needPairs_32, wi_irem, B_X9_needPairs_48, B_X9_needPairs_49, wi_istore_n, wi_istore, B_X9_needPairs_54, wi_iload, wi_icmp_ge, B_X9_needPairs_76, wi_bipush, B_X9_needPairs_82, wi_iadd, B_X9_needPairs_94, B_X9_needPairs_100, wi_goto, B_X9_needPairs_107, B_X9_needPairs_108, wi_iinc, B_X9_needPairs_115, B_X9_needPairs_123, B_X9_needPairs_128, no0, no1, nz1, nz2, nz3, nz4, nz5, nz7, nz8, Classical.not_not, bz0, bz1, wi_nil, ld_0, ld_s, isIv_I, isLv_L, isRv_R, true_and, and_true, lset_0, lset_1, lset_s, avw_I, avw_L, avw_R, clr_cons, clr_nil, kst_0, kst_1, kstL_0, kstL_1, addk_I, pA_0, pA_s, pD_0, pD_s, wid_nil, wid_cons, rcv_c, putv_I, putv_L, List.length_cons, List.length_nil, List.set_cons_zero, List.set_cons_succ, not_false_eq_true, Nat.reduceMod, Nat.reduceDiv, Nat.reduceEqDiff, Nat.reduceLT, Nat.reduceLeDiff, Nat.reduceAdd, Nat.reduceSub, reduceIte, Nat.lt_irrefl, Nat.zero_ne_one, Nat.one_ne_zero, Nat.zero_add, List.nil_append, List.cons_append, Option.toList_some, Option.toList_none, forall_const, false_implies, true_implies, false_or, or_false, true_or, or_true, i_le, i_lt, i_eq, i_eq0, i_lt0, i_0le, i_0lt, i_le0, i_in1, i_cl, nI_add, pk_mul, pk_sub, i_div, i_rem, i_sh1, i_bit, i_or, i_and, i_andn, nt_le, nf_le, nt_lt, nf_lt, nt_eq, nf_eq, not_true_eq_false, and_self, and_false, false_and, eq_self, Bool.toNat_true, Bool.toNat_false, i_bool, i_bool1, Bool.false_eq_true, Bool.true_eq_false, reduceCtorEq, i_neg1, i_neg2, i_neg3, i_neg4, i_neg5, i_neg6, i_neg7, i_neg8, i_neg9, i_nega, i_negb, i_negc, i_max2, i_min2])
    refine c_meets (by decide) ?_
    try simp (disch := omega) only [no0, no1, nz1, nz2, nz3, nz4, nz5, nz7, nz8, Classical.not_not, bz0, bz1, wi_nil, ld_0, ld_s, isIv_I, isLv_L, isRv_R, true_and, and_true, lset_0, lset_1, lset_s, avw_I, avw_L, avw_R, clr_cons, clr_nil, kst_0, kst_1, kstL_0, kstL_1, addk_I, pA_0, pA_s, pD_0, pD_s, wid_nil, wid_cons, rcv_c, putv_I, putv_L, List.length_cons, List.length_nil, List.set_cons_zero, List.set_cons_succ, not_false_eq_true, Nat.reduceMod, Nat.reduceDiv, Nat.reduceEqDiff, Nat.reduceLT, Nat.reduceLeDiff, Nat.reduceAdd, Nat.reduceSub, reduceIte, Nat.lt_irrefl, Nat.zero_ne_one, Nat.one_ne_zero, Nat.zero_add, List.nil_append, List.cons_append, Option.toList_some, Option.toList_none, forall_const, false_implies, true_implies, false_or, or_false, true_or, or_true, i_le, i_lt, i_eq, i_eq0, i_lt0, i_0le, i_0lt, i_le0, i_in1, i_cl, nI_add, pk_mul, pk_sub, i_div, i_rem, i_sh1, i_bit, i_or, i_and, i_andn, nt_le, nf_le, nt_lt, nf_lt, nt_eq, nf_eq, not_true_eq_false, and_self, and_false, false_and, eq_self, Bool.toNat_true, Bool.toNat_false, i_bool, i_bool1, Bool.false_eq_true, Bool.true_eq_false, reduceCtorEq, i_neg1, i_neg2, i_neg3, i_neg4, i_neg5, i_neg6, i_neg7, i_neg8, i_neg9, i_nega, i_negb, i_negc, i_max2, i_min2, wi_nil]
    repeat (
      first
      | refine s_X9_needPairs_0 ?_
      | refine s_X9_needPairs_5 ?_
      | refine s_X9_needPairs_12 ?_
      | refine s_X9_needPairs_15 ?_
      | refine s_X9_needPairs_17 ?_
      | refine s_X9_needPairs_31 ?_
      | refine s_X9_needPairs_32 ?_
      | refine s_X9_needPairs_48 ?_
      | refine s_X9_needPairs_49 ?_
      | refine s_X9_needPairs_76 ?_
      | refine s_X9_needPairs_82 ?_
      | refine s_X9_needPairs_94 ?_
      | refine s_X9_needPairs_100 ?_
      | refine s_X9_needPairs_107 ?_
      | refine s_X9_needPairs_108 ?_
      | refine s_X9_needPairs_115 ?_
      | refine s_X9_needPairs_123 ?_
      | refine s_X9_needPairs_128 ?_
      simp (disch := omega) only [B_X9_needPairs_0, wi_aload_n, wi_iload_n, wi_invokevirtual, cnt_8, B_X9_needPairs_5, wi_if_eq, wi_invokestatic, B_X9_needPairs_12, wi_if_ne, B_X9_needPairs_15, wi_iconst, wi_ireturn, B_X9_needPairs_17, wi_getfield, fldv_8_5, fds_8_5, wi_iaload, wi_if_ge, cnt_31, aTy_31, aLn_31, arr_31, B_X9_needPairs_31, B_X9_needPairs_32, wi_irem, B_X9_needPairs_48, B_X9_needPairs_49, wi_istore_n, wi_istore, B_X9_needPairs_54, wi_iload, wi_icmp_ge, B_X9_needPairs_76, wi_bipush, B_X9_needPairs_82, wi_iadd, B_X9_needPairs_94, B_X9_needPairs_100, wi_goto, B_X9_needPairs_107, B_X9_needPairs_108, wi_iinc, B_X9_needPairs_115, B_X9_needPairs_123, B_X9_needPairs_128, no0, no1, nz1, nz2, nz3, nz4, nz5, nz7, nz8, Classical.not_not, bz0, bz1, wi_nil, ld_0, ld_s, isIv_I, isLv_L, isRv_R, true_and, and_true, lset_0, lset_1, lset_s, avw_I, avw_L, avw_R, clr_cons, clr_nil, kst_0, kst_1, kstL_0, kstL_1, addk_I, pA_0, pA_s, pD_0, pD_s, wid_nil, wid_cons, rcv_c, putv_I, putv_L, List.length_cons, List.length_nil, List.set_cons_zero, List.set_cons_succ, not_false_eq_true, Nat.reduceMod, Nat.reduceDiv, Nat.reduceEqDiff, Nat.reduceLT, Nat.reduceLeDiff, Nat.reduceAdd, Nat.reduceSub, reduceIte, Nat.lt_irrefl, Nat.zero_ne_one, Nat.one_ne_zero, Nat.zero_add, List.nil_append, List.cons_append, Option.toList_some, Option.toList_none, forall_const, false_implies, true_implies, false_or, or_false, true_or, or_true, i_le, i_lt, i_eq, i_eq0, i_lt0, i_0le, i_0lt, i_le0, i_in1, i_cl, nI_add, pk_mul, pk_sub, i_div, i_rem, i_sh1, i_bit, i_or, i_and, i_andn, nt_le, nf_le, nt_lt, nf_lt, nt_eq, nf_eq, not_true_eq_false, and_self, and_false, false_and, eq_self, Bool.toNat_true, Bool.toNat_false, i_bool, i_bool1, Bool.false_eq_true, Bool.true_eq_false, reduceCtorEq, i_neg1, i_neg2, i_neg3, i_neg4, i_neg5, i_neg6, i_neg7, i_neg8, i_neg9, i_nega, i_negb, i_negc, i_max2, i_min2])
    exact q0 hp
  · try simp (disch := omega) only [no0, no1, nz1, nz2, nz3, nz4, nz5, nz7, nz8, Classical.not_not, bz0, bz1, wi_nil, ld_0, ld_s, isIv_I, isLv_L, isRv_R, true_and, and_true, lset_0, lset_1, lset_s, avw_I, avw_L, avw_R, clr_cons, clr_nil, kst_0, kst_1, kstL_0, kstL_1, addk_I, pA_0, pA_s, pD_0, pD_s, wid_nil, wid_cons, rcv_c, putv_I, putv_L, List.length_cons, List.length_nil, List.set_cons_zero, List.set_cons_succ, not_false_eq_true, Nat.reduceMod, Nat.reduceDiv, Nat.reduceEqDiff, Nat.reduceLT, Nat.reduceLeDiff, Nat.reduceAdd, Nat.reduceSub, reduceIte, Nat.lt_irrefl, Nat.zero_ne_one, Nat.one_ne_zero, Nat.zero_add, List.nil_append, List.cons_append, Option.toList_some, Option.toList_none, forall_const, false_implies, true_implies, false_or, or_false, true_or, or_true, i_le, i_lt, i_eq, i_eq0, i_lt0, i_0le, i_0lt, i_le0, i_in1, i_cl, nI_add, pk_mul, pk_sub, i_div, i_rem, i_sh1, i_bit, i_or, i_and, i_andn, nt_le, nf_le, nt_lt, nf_lt, nt_eq, nf_eq, not_true_eq_false, and_self, and_false, false_and, eq_self, Bool.toNat_true, Bool.toNat_false, i_bool, i_bool1, Bool.false_eq_true, Bool.true_eq_false, reduceCtorEq, i_neg1, i_neg2, i_neg3, i_neg4, i_neg5, i_neg6, i_neg7, i_neg8, i_neg9, i_nega, i_negb, i_negc, i_max2, i_min2, wi_nil]
    repeat (
      first
      | refine s_X9_needPairs_0 ?_
      | refine s_X9_needPairs_5 ?_
      | refine s_X9_needPairs_12 ?_
      | refine s_X9_needPairs_15 ?_
      | refine s_X9_needPairs_17 ?_
      | refine s_X9_needPairs_31 ?_
      | refine s_X9_needPairs_32 ?_
      | refine s_X9_needPairs_48 ?_
      | refine s_X9_needPairs_49 ?_
      | refine s_X9_needPairs_76 ?_
      | refine s_X9_needPairs_82 ?_
      | refine s_X9_needPairs_94 ?_
      | refine s_X9_needPairs_100 ?_
      | refine s_X9_needPairs_107 ?_
      | refine s_X9_needPairs_108 ?_
      | refine s_X9_needPairs_115 ?_
      | refine s_X9_needPairs_123 ?_
      | refine s_X9_needPairs_128 ?_
      simp (disch := omega) only [B_X9_needPairs_0, wi_aload_n, wi_iload_n, wi_invokevirtual, cnt_8, B_X9_needPairs_5, wi_if_eq, wi_invokestatic, B_X9_needPairs_12, wi_if_ne, B_X9_needPairs_15, wi_iconst, wi_ireturn, B_X9_needPairs_17, wi_getfield, fldv_8_5, fds_8_5, wi_iaload, wi_if_ge, cnt_31, aTy_31, aLn_31, arr_31, B_X9_needPairs_31, B_X9_needPairs_32, wi_irem, B_X9_needPairs_48, B_X9_needPairs_49, wi_istore_n, wi_istore, B_X9_needPairs_54, wi_iload, wi_icmp_ge, B_X9_needPairs_76, wi_bipush, B_X9_needPairs_82, wi_iadd, B_X9_needPairs_94, B_X9_needPairs_100, wi_goto, B_X9_needPairs_107, B_X9_needPairs_108, wi_iinc, B_X9_needPairs_115, B_X9_needPairs_123, B_X9_needPairs_128, no0, no1, nz1, nz2, nz3, nz4, nz5, nz7, nz8, Classical.not_not, bz0, bz1, wi_nil, ld_0, ld_s, isIv_I, isLv_L, isRv_R, true_and, and_true, lset_0, lset_1, lset_s, avw_I, avw_L, avw_R, clr_cons, clr_nil, kst_0, kst_1, kstL_0, kstL_1, addk_I, pA_0, pA_s, pD_0, pD_s, wid_nil, wid_cons, rcv_c, putv_I, putv_L, List.length_cons, List.length_nil, List.set_cons_zero, List.set_cons_succ, not_false_eq_true, Nat.reduceMod, Nat.reduceDiv, Nat.reduceEqDiff, Nat.reduceLT, Nat.reduceLeDiff, Nat.reduceAdd, Nat.reduceSub, reduceIte, Nat.lt_irrefl, Nat.zero_ne_one, Nat.one_ne_zero, Nat.zero_add, List.nil_append, List.cons_append, Option.toList_some, Option.toList_none, forall_const, false_implies, true_implies, false_or, or_false, true_or, or_true, i_le, i_lt, i_eq, i_eq0, i_lt0, i_0le, i_0lt, i_le0, i_in1, i_cl, nI_add, pk_mul, pk_sub, i_div, i_rem, i_sh1, i_bit, i_or, i_and, i_andn, nt_le, nf_le, nt_lt, nf_lt, nt_eq, nf_eq, not_true_eq_false, and_self, and_false, false_and, eq_self, Bool.toNat_true, Bool.toNat_false, i_bool, i_bool1, Bool.false_eq_true, Bool.true_eq_false, reduceCtorEq, i_neg1, i_neg2, i_neg3, i_neg4, i_neg5, i_neg6, i_neg7, i_neg8, i_neg9, i_nega, i_negb, i_negc, i_max2, i_min2])
    exact q1 hp
theorem l_agrees {i r h kd e hb : Nat} (hy : YrX S 1 Y) (ho : YOk 40 Y) (ht : Tb S 15 16 6 40 rs rc) (hi : i < Y 6 0) (hr : r < 6) (hz : rs r = 2 * h + 1) (hh : h ≤ 20) (hp : prB rc r h = true) (hkd : kd < 6) (he : e ≤ 9) (hhb : hb ≤ 9) (q : P (some (aI (nI (agS rc r (Y 3 i) (Y 4 i) kd e hb h).toNat))) S) : ∀ (m j : Nat), j + m = h → agS rc r (Y 3 i) (Y 4 i) kd e hb j = true → wpX (d + 3) mX8_agrees 13 [aR 7 0, aI (nI i), aI (nI r), aI (nI kd), aI (nI e), aI (nI hb), aI (nI (2 * h)), aI (nI (2 * j)), aU] [] S P := by
  have hn5 := ho.1.1
  have hbi := ho.2 i hi
  intro m
  induction m with
  | zero =>
    intro j hj ha
    have e : j = h := by omega
    subst e
    rw [ha] at q
    refine s_X8_agrees_13 ?_
    simp (disch := omega) only [B_X8_agrees_13, wi_iload, wi_iconst, wi_iadd, wi_icmp_ge, wi_iload_n, wi_aload_n, wi_getfield, fldv_7_3, fds_7_3, cnt_7, fldv_6_3, fds_6_3, cnt_6, wi_iaload, fldv_6_4, fds_6_4, fldv_7_0, fds_7_0, wi_invokevirtual, cnt_3, cnt_23, aTy_23, aLn_23, arr_23, cnt_24, aTy_24, aLn_24, arr_24, no0, no1, nz1, nz2, nz3, nz4, nz5, nz7, nz8, Classical.not_not, bz0, bz1, wi_nil, ld_0, ld_s, isIv_I, isLv_L, isRv_R, true_and, and_true, lset_0, lset_1, lset_s, avw_I, avw_L, avw_R, clr_cons, clr_nil, kst_0, kst_1, kstL_0, kstL_1, addk_I, pA_0, pA_s, pD_0, pD_s, wid_nil, wid_cons, rcv_c, putv_I, putv_L, List.length_cons, List.length_nil, List.set_cons_zero, List.set_cons_succ, not_false_eq_true, Nat.reduceMod, Nat.reduceDiv, Nat.reduceEqDiff, Nat.reduceLT, Nat.reduceLeDiff, Nat.reduceAdd, Nat.reduceSub, reduceIte, Nat.lt_irrefl, Nat.zero_ne_one, Nat.one_ne_zero, Nat.zero_add, List.nil_append, List.cons_append, Option.toList_some, Option.toList_none, forall_const, false_implies, true_implies, false_or, or_false, true_or, or_true, i_le, i_lt, i_eq, i_eq0, i_lt0, i_0le, i_0lt, i_le0, i_in1, i_cl, nI_add, pk_mul, pk_sub, i_div, i_rem, i_sh1, i_bit, i_or, i_and, i_andn, nt_le, nf_le, nt_lt, nf_lt, nt_eq, nf_eq, not_true_eq_false, and_self, and_false, false_and, eq_self, Bool.toNat_true, Bool.toNat_false, i_bool, i_bool1, Bool.false_eq_true, Bool.true_eq_false, reduceCtorEq, i_neg1, i_neg2, i_neg3, i_neg4, i_neg5, i_neg6, i_neg7, i_neg8, i_neg9, i_nega, i_negb, i_negc, i_max2, i_min2]
    try simp (disch := omega) only [no0, no1, nz1, nz2, nz3, nz4, nz5, nz7, nz8, Classical.not_not, bz0, bz1, wi_nil, ld_0, ld_s, isIv_I, isLv_L, isRv_R, true_and, and_true, lset_0, lset_1, lset_s, avw_I, avw_L, avw_R, clr_cons, clr_nil, kst_0, kst_1, kstL_0, kstL_1, addk_I, pA_0, pA_s, pD_0, pD_s, wid_nil, wid_cons, rcv_c, putv_I, putv_L, List.length_cons, List.length_nil, List.set_cons_zero, List.set_cons_succ, not_false_eq_true, Nat.reduceMod, Nat.reduceDiv, Nat.reduceEqDiff, Nat.reduceLT, Nat.reduceLeDiff, Nat.reduceAdd, Nat.reduceSub, reduceIte, Nat.lt_irrefl, Nat.zero_ne_one, Nat.one_ne_zero, Nat.zero_add, List.nil_append, List.cons_append, Option.toList_some, Option.toList_none, forall_const, false_implies, true_implies, false_or, or_false, true_or, or_true, i_le, i_lt, i_eq, i_eq0, i_lt0, i_0le, i_0lt, i_le0, i_in1, i_cl, nI_add, pk_mul, pk_sub, i_div, i_rem, i_sh1, i_bit, i_or, i_and, i_andn, nt_le, nf_le, nt_lt, nf_lt, nt_eq, nf_eq, not_true_eq_false, and_self, and_false, false_and, eq_self, Bool.toNat_true, Bool.toNat_false, i_bool, i_bool1, Bool.false_eq_true, Bool.true_eq_false, reduceCtorEq, i_neg1, i_neg2, i_neg3, i_neg4, i_neg5, i_neg6, i_neg7, i_neg8, i_neg9, i_nega, i_negb, i_negc, i_max2, i_min2, wi_nil]
    repeat (
      first
      | refine s_X8_agrees_0 ?_
      | refine s_X8_agrees_8 ?_
      | refine s_X8_agrees_55 ?_
      | refine s_X8_agrees_58 ?_
      | refine s_X8_agrees_74 ?_
      | refine s_X8_agrees_79 ?_
      | refine s_X8_agrees_85 ?_
      simp (disch := omega) only [B_X8_agrees_0, wi_aload_n, wi_getfield, fldv_7_0, fds_7_0, cnt_7, wi_iload_n, wi_invokevirtual, cnt_3, B_X8_agrees_8, wi_istore, wi_iconst, B_X8_agrees_13, wi_iload, wi_iadd, wi_icmp_ge, fldv_7_3, fds_7_3, fldv_6_3, fds_6_3, cnt_6, wi_iaload, fldv_6_4, fds_6_4, cnt_23, aTy_23, aLn_23, arr_23, cnt_24, aTy_24, aLn_24, arr_24, B_X8_agrees_55, wi_invokestatic, B_X8_agrees_58, B_X8_agrees_74, wi_icmp_eq, wi_ireturn, B_X8_agrees_79, wi_iinc, wi_goto, B_X8_agrees_85, no0, no1, nz1, nz2, nz3, nz4, nz5, nz7, nz8, Classical.not_not, bz0, bz1, wi_nil, ld_0, ld_s, isIv_I, isLv_L, isRv_R, true_and, and_true, lset_0, lset_1, lset_s, avw_I, avw_L, avw_R, clr_cons, clr_nil, kst_0, kst_1, kstL_0, kstL_1, addk_I, pA_0, pA_s, pD_0, pD_s, wid_nil, wid_cons, rcv_c, putv_I, putv_L, List.length_cons, List.length_nil, List.set_cons_zero, List.set_cons_succ, not_false_eq_true, Nat.reduceMod, Nat.reduceDiv, Nat.reduceEqDiff, Nat.reduceLT, Nat.reduceLeDiff, Nat.reduceAdd, Nat.reduceSub, reduceIte, Nat.lt_irrefl, Nat.zero_ne_one, Nat.one_ne_zero, Nat.zero_add, List.nil_append, List.cons_append, Option.toList_some, Option.toList_none, forall_const, false_implies, true_implies, false_or, or_false, true_or, or_true, i_le, i_lt, i_eq, i_eq0, i_lt0, i_0le, i_0lt, i_le0, i_in1, i_cl, nI_add, pk_mul, pk_sub, i_div, i_rem, i_sh1, i_bit, i_or, i_and, i_andn, nt_le, nf_le, nt_lt, nf_lt, nt_eq, nf_eq, not_true_eq_false, and_self, and_false, false_and, eq_self, Bool.toNat_true, Bool.toNat_false, i_bool, i_bool1, Bool.false_eq_true, Bool.true_eq_false, reduceCtorEq, i_neg1, i_neg2, i_neg3, i_neg4, i_neg5, i_neg6, i_neg7, i_neg8, i_neg9, i_nega, i_negb, i_negc, i_max2, i_min2])
    exact q
  | succ m ih =>
    intro j hj ha
    have hnx := ih (j + 1) (by omega)
    rw [show 2 * (j + 1) = 2 * j + 2 by omega, agS, ha, Bool.true_and] at hnx
    obtain ⟨n1, n2, n3, n4, n5⟩ := pk_nat (pr_at hp (show j < h by omega))
    have hpl := prc_le (k := kd) (h := hb) (c := Y 4 i) (d := dyN rc r j) he hbi.2.2.2.1
    refine s_X8_agrees_13 ?_
    simp (disch := omega) only [B_X8_agrees_13, wi_iload, wi_iconst, wi_iadd, wi_icmp_ge, wi_iload_n, wi_aload_n, wi_getfield, fldv_7_3, fds_7_3, cnt_7, fldv_6_3, fds_6_3, cnt_6, wi_iaload, fldv_6_4, fds_6_4, fldv_7_0, fds_7_0, wi_invokevirtual, cnt_3, cnt_23, aTy_23, aLn_23, arr_23, cnt_24, aTy_24, aLn_24, arr_24, no0, no1, nz1, nz2, nz3, nz4, nz5, nz7, nz8, Classical.not_not, bz0, bz1, wi_nil, ld_0, ld_s, isIv_I, isLv_L, isRv_R, true_and, and_true, lset_0, lset_1, lset_s, avw_I, avw_L, avw_R, clr_cons, clr_nil, kst_0, kst_1, kstL_0, kstL_1, addk_I, pA_0, pA_s, pD_0, pD_s, wid_nil, wid_cons, rcv_c, putv_I, putv_L, List.length_cons, List.length_nil, List.set_cons_zero, List.set_cons_succ, not_false_eq_true, Nat.reduceMod, Nat.reduceDiv, Nat.reduceEqDiff, Nat.reduceLT, Nat.reduceLeDiff, Nat.reduceAdd, Nat.reduceSub, reduceIte, Nat.lt_irrefl, Nat.zero_ne_one, Nat.one_ne_zero, Nat.zero_add, List.nil_append, List.cons_append, Option.toList_some, Option.toList_none, forall_const, false_implies, true_implies, false_or, or_false, true_or, or_true, i_le, i_lt, i_eq, i_eq0, i_lt0, i_0le, i_0lt, i_le0, i_in1, i_cl, nI_add, pk_mul, pk_sub, i_div, i_rem, i_sh1, i_bit, i_or, i_and, i_andn, nt_le, nf_le, nt_lt, nf_lt, nt_eq, nf_eq, not_true_eq_false, and_self, and_false, false_and, eq_self, Bool.toNat_true, Bool.toNat_false, i_bool, i_bool1, Bool.false_eq_true, Bool.true_eq_false, reduceCtorEq, i_neg1, i_neg2, i_neg3, i_neg4, i_neg5, i_neg6, i_neg7, i_neg8, i_neg9, i_nega, i_negb, i_negc, i_max2, i_min2, (y_pull hy), (y_ch hy)]
    refine c_Rread ht hr (by omega) ?_
    rw [n1]
    try simp (disch := omega) only [no0, no1, nz1, nz2, nz3, nz4, nz5, nz7, nz8, Classical.not_not, bz0, bz1, wi_nil, ld_0, ld_s, isIv_I, isLv_L, isRv_R, true_and, and_true, lset_0, lset_1, lset_s, avw_I, avw_L, avw_R, clr_cons, clr_nil, kst_0, kst_1, kstL_0, kstL_1, addk_I, pA_0, pA_s, pD_0, pD_s, wid_nil, wid_cons, rcv_c, putv_I, putv_L, List.length_cons, List.length_nil, List.set_cons_zero, List.set_cons_succ, not_false_eq_true, Nat.reduceMod, Nat.reduceDiv, Nat.reduceEqDiff, Nat.reduceLT, Nat.reduceLeDiff, Nat.reduceAdd, Nat.reduceSub, reduceIte, Nat.lt_irrefl, Nat.zero_ne_one, Nat.one_ne_zero, Nat.zero_add, List.nil_append, List.cons_append, Option.toList_some, Option.toList_none, forall_const, false_implies, true_implies, false_or, or_false, true_or, or_true, i_le, i_lt, i_eq, i_eq0, i_lt0, i_0le, i_0lt, i_le0, i_in1, i_cl, nI_add, pk_mul, pk_sub, i_div, i_rem, i_sh1, i_bit, i_or, i_and, i_andn, nt_le, nf_le, nt_lt, nf_lt, nt_eq, nf_eq, not_true_eq_false, and_self, and_false, false_and, eq_self, Bool.toNat_true, Bool.toNat_false, i_bool, i_bool1, Bool.false_eq_true, Bool.true_eq_false, reduceCtorEq, i_neg1, i_neg2, i_neg3, i_neg4, i_neg5, i_neg6, i_neg7, i_neg8, i_neg9, i_nega, i_negb, i_negc, i_max2, i_min2, wi_nil]
    repeat (
      first
      | refine s_X8_agrees_0 ?_
      | refine s_X8_agrees_8 ?_
      | refine s_X8_agrees_55 ?_
      | refine s_X8_agrees_58 ?_
      | refine s_X8_agrees_74 ?_
      | refine s_X8_agrees_79 ?_
      | refine s_X8_agrees_85 ?_
      simp (disch := omega) only [B_X8_agrees_0, wi_aload_n, wi_getfield, fldv_7_0, fds_7_0, cnt_7, wi_iload_n, wi_invokevirtual, cnt_3, B_X8_agrees_8, wi_istore, wi_iconst, B_X8_agrees_13, wi_iload, wi_iadd, wi_icmp_ge, fldv_7_3, fds_7_3, fldv_6_3, fds_6_3, cnt_6, wi_iaload, fldv_6_4, fds_6_4, cnt_23, aTy_23, aLn_23, arr_23, cnt_24, aTy_24, aLn_24, arr_24, B_X8_agrees_55, wi_invokestatic, B_X8_agrees_58, B_X8_agrees_74, wi_icmp_eq, wi_ireturn, B_X8_agrees_79, wi_iinc, wi_goto, B_X8_agrees_85, no0, no1, nz1, nz2, nz3, nz4, nz5, nz7, nz8, Classical.not_not, bz0, bz1, wi_nil, ld_0, ld_s, isIv_I, isLv_L, isRv_R, true_and, and_true, lset_0, lset_1, lset_s, avw_I, avw_L, avw_R, clr_cons, clr_nil, kst_0, kst_1, kstL_0, kstL_1, addk_I, pA_0, pA_s, pD_0, pD_s, wid_nil, wid_cons, rcv_c, putv_I, putv_L, List.length_cons, List.length_nil, List.set_cons_zero, List.set_cons_succ, not_false_eq_true, Nat.reduceMod, Nat.reduceDiv, Nat.reduceEqDiff, Nat.reduceLT, Nat.reduceLeDiff, Nat.reduceAdd, Nat.reduceSub, reduceIte, Nat.lt_irrefl, Nat.zero_ne_one, Nat.one_ne_zero, Nat.zero_add, List.nil_append, List.cons_append, Option.toList_some, Option.toList_none, forall_const, false_implies, true_implies, false_or, or_false, true_or, or_true, i_le, i_lt, i_eq, i_eq0, i_lt0, i_0le, i_0lt, i_le0, i_in1, i_cl, nI_add, pk_mul, pk_sub, i_div, i_rem, i_sh1, i_bit, i_or, i_and, i_andn, nt_le, nf_le, nt_lt, nf_lt, nt_eq, nf_eq, not_true_eq_false, and_self, and_false, false_and, eq_self, Bool.toNat_true, Bool.toNat_false, i_bool, i_bool1, Bool.false_eq_true, Bool.true_eq_false, reduceCtorEq, i_neg1, i_neg2, i_neg3, i_neg4, i_neg5, i_neg6, i_neg7, i_neg8, i_neg9, i_nega, i_negb, i_negc, i_max2, i_min2])
    refine c_price hkd he hhb hbi.2.2.2.1 (by omega) (by omega) ?_
    try simp (disch := omega) only [no0, no1, nz1, nz2, nz3, nz4, nz5, nz7, nz8, Classical.not_not, bz0, bz1, wi_nil, ld_0, ld_s, isIv_I, isLv_L, isRv_R, true_and, and_true, lset_0, lset_1, lset_s, avw_I, avw_L, avw_R, clr_cons, clr_nil, kst_0, kst_1, kstL_0, kstL_1, addk_I, pA_0, pA_s, pD_0, pD_s, wid_nil, wid_cons, rcv_c, putv_I, putv_L, List.length_cons, List.length_nil, List.set_cons_zero, List.set_cons_succ, not_false_eq_true, Nat.reduceMod, Nat.reduceDiv, Nat.reduceEqDiff, Nat.reduceLT, Nat.reduceLeDiff, Nat.reduceAdd, Nat.reduceSub, reduceIte, Nat.lt_irrefl, Nat.zero_ne_one, Nat.one_ne_zero, Nat.zero_add, List.nil_append, List.cons_append, Option.toList_some, Option.toList_none, forall_const, false_implies, true_implies, false_or, or_false, true_or, or_true, i_le, i_lt, i_eq, i_eq0, i_lt0, i_0le, i_0lt, i_le0, i_in1, i_cl, nI_add, pk_mul, pk_sub, i_div, i_rem, i_sh1, i_bit, i_or, i_and, i_andn, nt_le, nf_le, nt_lt, nf_lt, nt_eq, nf_eq, not_true_eq_false, and_self, and_false, false_and, eq_self, Bool.toNat_true, Bool.toNat_false, i_bool, i_bool1, Bool.false_eq_true, Bool.true_eq_false, reduceCtorEq, i_neg1, i_neg2, i_neg3, i_neg4, i_neg5, i_neg6, i_neg7, i_neg8, i_neg9, i_nega, i_negb, i_negc, i_max2, i_min2, wi_nil]
    repeat (
      first
      | refine s_X8_agrees_0 ?_
      | refine s_X8_agrees_8 ?_
      | refine s_X8_agrees_55 ?_
      | refine s_X8_agrees_58 ?_
      | refine s_X8_agrees_74 ?_
      | refine s_X8_agrees_79 ?_
      | refine s_X8_agrees_85 ?_
      simp (disch := omega) only [B_X8_agrees_0, wi_aload_n, wi_getfield, fldv_7_0, fds_7_0, cnt_7, wi_iload_n, wi_invokevirtual, cnt_3, B_X8_agrees_8, wi_istore, wi_iconst, B_X8_agrees_13, wi_iload, wi_iadd, wi_icmp_ge, fldv_7_3, fds_7_3, fldv_6_3, fds_6_3, cnt_6, wi_iaload, fldv_6_4, fds_6_4, cnt_23, aTy_23, aLn_23, arr_23, cnt_24, aTy_24, aLn_24, arr_24, B_X8_agrees_55, wi_invokestatic, B_X8_agrees_58, B_X8_agrees_74, wi_icmp_eq, wi_ireturn, B_X8_agrees_79, wi_iinc, wi_goto, B_X8_agrees_85, no0, no1, nz1, nz2, nz3, nz4, nz5, nz7, nz8, Classical.not_not, bz0, bz1, wi_nil, ld_0, ld_s, isIv_I, isLv_L, isRv_R, true_and, and_true, lset_0, lset_1, lset_s, avw_I, avw_L, avw_R, clr_cons, clr_nil, kst_0, kst_1, kstL_0, kstL_1, addk_I, pA_0, pA_s, pD_0, pD_s, wid_nil, wid_cons, rcv_c, putv_I, putv_L, List.length_cons, List.length_nil, List.set_cons_zero, List.set_cons_succ, not_false_eq_true, Nat.reduceMod, Nat.reduceDiv, Nat.reduceEqDiff, Nat.reduceLT, Nat.reduceLeDiff, Nat.reduceAdd, Nat.reduceSub, reduceIte, Nat.lt_irrefl, Nat.zero_ne_one, Nat.one_ne_zero, Nat.zero_add, List.nil_append, List.cons_append, Option.toList_some, Option.toList_none, forall_const, false_implies, true_implies, false_or, or_false, true_or, or_true, i_le, i_lt, i_eq, i_eq0, i_lt0, i_0le, i_0lt, i_le0, i_in1, i_cl, nI_add, pk_mul, pk_sub, i_div, i_rem, i_sh1, i_bit, i_or, i_and, i_andn, nt_le, nf_le, nt_lt, nf_lt, nt_eq, nf_eq, not_true_eq_false, and_self, and_false, false_and, eq_self, Bool.toNat_true, Bool.toNat_false, i_bool, i_bool1, Bool.false_eq_true, Bool.true_eq_false, reduceCtorEq, i_neg1, i_neg2, i_neg3, i_neg4, i_neg5, i_neg6, i_neg7, i_neg8, i_neg9, i_nega, i_negb, i_negc, i_max2, i_min2])
    refine c_Rread ht hr (by omega) ?_
    rw [n4]
    by_cases c : prc kd e hb (Y 3 i) (Y 4 i) (dyN rc r j) = pyN rc r j
    · try simp (disch := omega) only [no0, no1, nz1, nz2, nz3, nz4, nz5, nz7, nz8, Classical.not_not, bz0, bz1, wi_nil, ld_0, ld_s, isIv_I, isLv_L, isRv_R, true_and, and_true, lset_0, lset_1, lset_s, avw_I, avw_L, avw_R, clr_cons, clr_nil, kst_0, kst_1, kstL_0, kstL_1, addk_I, pA_0, pA_s, pD_0, pD_s, wid_nil, wid_cons, rcv_c, putv_I, putv_L, List.length_cons, List.length_nil, List.set_cons_zero, List.set_cons_succ, not_false_eq_true, Nat.reduceMod, Nat.reduceDiv, Nat.reduceEqDiff, Nat.reduceLT, Nat.reduceLeDiff, Nat.reduceAdd, Nat.reduceSub, reduceIte, Nat.lt_irrefl, Nat.zero_ne_one, Nat.one_ne_zero, Nat.zero_add, List.nil_append, List.cons_append, Option.toList_some, Option.toList_none, forall_const, false_implies, true_implies, false_or, or_false, true_or, or_true, i_le, i_lt, i_eq, i_eq0, i_lt0, i_0le, i_0lt, i_le0, i_in1, i_cl, nI_add, pk_mul, pk_sub, i_div, i_rem, i_sh1, i_bit, i_or, i_and, i_andn, nt_le, nf_le, nt_lt, nf_lt, nt_eq, nf_eq, not_true_eq_false, and_self, and_false, false_and, eq_self, Bool.toNat_true, Bool.toNat_false, i_bool, i_bool1, Bool.false_eq_true, Bool.true_eq_false, reduceCtorEq, i_neg1, i_neg2, i_neg3, i_neg4, i_neg5, i_neg6, i_neg7, i_neg8, i_neg9, i_nega, i_negb, i_negc, i_max2, i_min2, wi_nil]
      repeat (
        first
        | refine s_X8_agrees_0 ?_
        | refine s_X8_agrees_8 ?_
        | refine s_X8_agrees_55 ?_
        | refine s_X8_agrees_58 ?_
        | refine s_X8_agrees_74 ?_
        | refine s_X8_agrees_79 ?_
        | refine s_X8_agrees_85 ?_
        simp (disch := omega) only [B_X8_agrees_0, wi_aload_n, wi_getfield, fldv_7_0, fds_7_0, cnt_7, wi_iload_n, wi_invokevirtual, cnt_3, B_X8_agrees_8, wi_istore, wi_iconst, B_X8_agrees_13, wi_iload, wi_iadd, wi_icmp_ge, fldv_7_3, fds_7_3, fldv_6_3, fds_6_3, cnt_6, wi_iaload, fldv_6_4, fds_6_4, cnt_23, aTy_23, aLn_23, arr_23, cnt_24, aTy_24, aLn_24, arr_24, B_X8_agrees_55, wi_invokestatic, B_X8_agrees_58, B_X8_agrees_74, wi_icmp_eq, wi_ireturn, B_X8_agrees_79, wi_iinc, wi_goto, B_X8_agrees_85, no0, no1, nz1, nz2, nz3, nz4, nz5, nz7, nz8, Classical.not_not, bz0, bz1, wi_nil, ld_0, ld_s, isIv_I, isLv_L, isRv_R, true_and, and_true, lset_0, lset_1, lset_s, avw_I, avw_L, avw_R, clr_cons, clr_nil, kst_0, kst_1, kstL_0, kstL_1, addk_I, pA_0, pA_s, pD_0, pD_s, wid_nil, wid_cons, rcv_c, putv_I, putv_L, List.length_cons, List.length_nil, List.set_cons_zero, List.set_cons_succ, not_false_eq_true, Nat.reduceMod, Nat.reduceDiv, Nat.reduceEqDiff, Nat.reduceLT, Nat.reduceLeDiff, Nat.reduceAdd, Nat.reduceSub, reduceIte, Nat.lt_irrefl, Nat.zero_ne_one, Nat.one_ne_zero, Nat.zero_add, List.nil_append, List.cons_append, Option.toList_some, Option.toList_none, forall_const, false_implies, true_implies, false_or, or_false, true_or, or_true, i_le, i_lt, i_eq, i_eq0, i_lt0, i_0le, i_0lt, i_le0, i_in1, i_cl, nI_add, pk_mul, pk_sub, i_div, i_rem, i_sh1, i_bit, i_or, i_and, i_andn, nt_le, nf_le, nt_lt, nf_lt, nt_eq, nf_eq, not_true_eq_false, and_self, and_false, false_and, eq_self, Bool.toNat_true, Bool.toNat_false, i_bool, i_bool1, Bool.false_eq_true, Bool.true_eq_false, reduceCtorEq, i_neg1, i_neg2, i_neg3, i_neg4, i_neg5, i_neg6, i_neg7, i_neg8, i_neg9, i_nega, i_negb, i_negc, i_max2, i_min2])
      exact hnx (decide_eq_true c)
    · have := ag_mono c (h - (j + 1))
      rw [show j + 1 + (h - (j + 1)) = h by omega] at this
      rw [this] at q
      try simp (disch := omega) only [no0, no1, nz1, nz2, nz3, nz4, nz5, nz7, nz8, Classical.not_not, bz0, bz1, wi_nil, ld_0, ld_s, isIv_I, isLv_L, isRv_R, true_and, and_true, lset_0, lset_1, lset_s, avw_I, avw_L, avw_R, clr_cons, clr_nil, kst_0, kst_1, kstL_0, kstL_1, addk_I, pA_0, pA_s, pD_0, pD_s, wid_nil, wid_cons, rcv_c, putv_I, putv_L, List.length_cons, List.length_nil, List.set_cons_zero, List.set_cons_succ, not_false_eq_true, Nat.reduceMod, Nat.reduceDiv, Nat.reduceEqDiff, Nat.reduceLT, Nat.reduceLeDiff, Nat.reduceAdd, Nat.reduceSub, reduceIte, Nat.lt_irrefl, Nat.zero_ne_one, Nat.one_ne_zero, Nat.zero_add, List.nil_append, List.cons_append, Option.toList_some, Option.toList_none, forall_const, false_implies, true_implies, false_or, or_false, true_or, or_true, i_le, i_lt, i_eq, i_eq0, i_lt0, i_0le, i_0lt, i_le0, i_in1, i_cl, nI_add, pk_mul, pk_sub, i_div, i_rem, i_sh1, i_bit, i_or, i_and, i_andn, nt_le, nf_le, nt_lt, nf_lt, nt_eq, nf_eq, not_true_eq_false, and_self, and_false, false_and, eq_self, Bool.toNat_true, Bool.toNat_false, i_bool, i_bool1, Bool.false_eq_true, Bool.true_eq_false, reduceCtorEq, i_neg1, i_neg2, i_neg3, i_neg4, i_neg5, i_neg6, i_neg7, i_neg8, i_neg9, i_nega, i_negb, i_negc, i_max2, i_min2, wi_nil]
      repeat (
        first
        | refine s_X8_agrees_0 ?_
        | refine s_X8_agrees_8 ?_
        | refine s_X8_agrees_55 ?_
        | refine s_X8_agrees_58 ?_
        | refine s_X8_agrees_74 ?_
        | refine s_X8_agrees_79 ?_
        | refine s_X8_agrees_85 ?_
        simp (disch := omega) only [B_X8_agrees_0, wi_aload_n, wi_getfield, fldv_7_0, fds_7_0, cnt_7, wi_iload_n, wi_invokevirtual, cnt_3, B_X8_agrees_8, wi_istore, wi_iconst, B_X8_agrees_13, wi_iload, wi_iadd, wi_icmp_ge, fldv_7_3, fds_7_3, fldv_6_3, fds_6_3, cnt_6, wi_iaload, fldv_6_4, fds_6_4, cnt_23, aTy_23, aLn_23, arr_23, cnt_24, aTy_24, aLn_24, arr_24, B_X8_agrees_55, wi_invokestatic, B_X8_agrees_58, B_X8_agrees_74, wi_icmp_eq, wi_ireturn, B_X8_agrees_79, wi_iinc, wi_goto, B_X8_agrees_85, no0, no1, nz1, nz2, nz3, nz4, nz5, nz7, nz8, Classical.not_not, bz0, bz1, wi_nil, ld_0, ld_s, isIv_I, isLv_L, isRv_R, true_and, and_true, lset_0, lset_1, lset_s, avw_I, avw_L, avw_R, clr_cons, clr_nil, kst_0, kst_1, kstL_0, kstL_1, addk_I, pA_0, pA_s, pD_0, pD_s, wid_nil, wid_cons, rcv_c, putv_I, putv_L, List.length_cons, List.length_nil, List.set_cons_zero, List.set_cons_succ, not_false_eq_true, Nat.reduceMod, Nat.reduceDiv, Nat.reduceEqDiff, Nat.reduceLT, Nat.reduceLeDiff, Nat.reduceAdd, Nat.reduceSub, reduceIte, Nat.lt_irrefl, Nat.zero_ne_one, Nat.one_ne_zero, Nat.zero_add, List.nil_append, List.cons_append, Option.toList_some, Option.toList_none, forall_const, false_implies, true_implies, false_or, or_false, true_or, or_true, i_le, i_lt, i_eq, i_eq0, i_lt0, i_0le, i_0lt, i_le0, i_in1, i_cl, nI_add, pk_mul, pk_sub, i_div, i_rem, i_sh1, i_bit, i_or, i_and, i_andn, nt_le, nf_le, nt_lt, nf_lt, nt_eq, nf_eq, not_true_eq_false, and_self, and_false, false_and, eq_self, Bool.toNat_true, Bool.toNat_false, i_bool, i_bool1, Bool.false_eq_true, Bool.true_eq_false, reduceCtorEq, i_neg1, i_neg2, i_neg3, i_neg4, i_neg5, i_neg6, i_neg7, i_neg8, i_neg9, i_nega, i_negb, i_negc, i_max2, i_min2])
      exact q
theorem c_agrees {i r h kd e hb : Nat} (hy : YrX S 1 Y) (ho : YOk 40 Y) (ht : Tb S 15 16 6 40 rs rc) (hi : i < Y 6 0) (hr : r < 6) (hz : rs r = 2 * h + 1) (hh : h ≤ 20) (hp : prB rc r h = true) (hkd : kd < 6) (he : e ≤ 9) (hhb : hb ≤ 9) (q : P (some (aI (nI (agS rc r (Y 3 i) (Y 4 i) kd e hb h).toNat))) S) : wpM (d + 4) mX8_agrees [aR 7 0, aI (nI i), aI (nI r), aI (nI kd), aI (nI e), aI (nI hb)] S P := by
  refine x_entry (ls2 := [aR 7 0, aI (nI i), aI (nI r), aI (nI kd), aI (nI e), aI (nI hb), aU, aU, aU]) (Nat.le_of_ble_eq_true rfl) pl_8 rfl (Nat.le_of_ble_eq_true rfl) ?_
  try simp (disch := omega) only [no0, no1, nz1, nz2, nz3, nz4, nz5, nz7, nz8, Classical.not_not, bz0, bz1, wi_nil, ld_0, ld_s, isIv_I, isLv_L, isRv_R, true_and, and_true, lset_0, lset_1, lset_s, avw_I, avw_L, avw_R, clr_cons, clr_nil, kst_0, kst_1, kstL_0, kstL_1, addk_I, pA_0, pA_s, pD_0, pD_s, wid_nil, wid_cons, rcv_c, putv_I, putv_L, List.length_cons, List.length_nil, List.set_cons_zero, List.set_cons_succ, not_false_eq_true, Nat.reduceMod, Nat.reduceDiv, Nat.reduceEqDiff, Nat.reduceLT, Nat.reduceLeDiff, Nat.reduceAdd, Nat.reduceSub, reduceIte, Nat.lt_irrefl, Nat.zero_ne_one, Nat.one_ne_zero, Nat.zero_add, List.nil_append, List.cons_append, Option.toList_some, Option.toList_none, forall_const, false_implies, true_implies, false_or, or_false, true_or, or_true, i_le, i_lt, i_eq, i_eq0, i_lt0, i_0le, i_0lt, i_le0, i_in1, i_cl, nI_add, pk_mul, pk_sub, i_div, i_rem, i_sh1, i_bit, i_or, i_and, i_andn, nt_le, nf_le, nt_lt, nf_lt, nt_eq, nf_eq, not_true_eq_false, and_self, and_false, false_and, eq_self, Bool.toNat_true, Bool.toNat_false, i_bool, i_bool1, Bool.false_eq_true, Bool.true_eq_false, reduceCtorEq, i_neg1, i_neg2, i_neg3, i_neg4, i_neg5, i_neg6, i_neg7, i_neg8, i_neg9, i_nega, i_negb, i_negc, i_max2, i_min2, wi_nil]
  repeat (
    first
    | refine s_X8_agrees_0 ?_
    | refine s_X8_agrees_8 ?_
    | refine s_X8_agrees_55 ?_
    | refine s_X8_agrees_58 ?_
    | refine s_X8_agrees_74 ?_
    | refine s_X8_agrees_79 ?_
    | refine s_X8_agrees_85 ?_
    simp (disch := omega) only [B_X8_agrees_0, wi_aload_n, wi_getfield, fldv_7_0, fds_7_0, cnt_7, wi_iload_n, wi_invokevirtual, cnt_3, B_X8_agrees_8, wi_istore, wi_iconst, B_X8_agrees_13, wi_iload, wi_iadd, wi_icmp_ge, fldv_7_3, fds_7_3, fldv_6_3, fds_6_3, cnt_6, wi_iaload, fldv_6_4, fds_6_4, cnt_23, aTy_23, aLn_23, arr_23, cnt_24, aTy_24, aLn_24, arr_24, B_X8_agrees_55, wi_invokestatic, B_X8_agrees_58, B_X8_agrees_74, wi_icmp_eq, wi_ireturn, B_X8_agrees_79, wi_iinc, wi_goto, B_X8_agrees_85, no0, no1, nz1, nz2, nz3, nz4, nz5, nz7, nz8, Classical.not_not, bz0, bz1, wi_nil, ld_0, ld_s, isIv_I, isLv_L, isRv_R, true_and, and_true, lset_0, lset_1, lset_s, avw_I, avw_L, avw_R, clr_cons, clr_nil, kst_0, kst_1, kstL_0, kstL_1, addk_I, pA_0, pA_s, pD_0, pD_s, wid_nil, wid_cons, rcv_c, putv_I, putv_L, List.length_cons, List.length_nil, List.set_cons_zero, List.set_cons_succ, not_false_eq_true, Nat.reduceMod, Nat.reduceDiv, Nat.reduceEqDiff, Nat.reduceLT, Nat.reduceLeDiff, Nat.reduceAdd, Nat.reduceSub, reduceIte, Nat.lt_irrefl, Nat.zero_ne_one, Nat.one_ne_zero, Nat.zero_add, List.nil_append, List.cons_append, Option.toList_some, Option.toList_none, forall_const, false_implies, true_implies, false_or, or_false, true_or, or_true, i_le, i_lt, i_eq, i_eq0, i_lt0, i_0le, i_0lt, i_le0, i_in1, i_cl, nI_add, pk_mul, pk_sub, i_div, i_rem, i_sh1, i_bit, i_or, i_and, i_andn, nt_le, nf_le, nt_lt, nf_lt, nt_eq, nf_eq, not_true_eq_false, and_self, and_false, false_and, eq_self, Bool.toNat_true, Bool.toNat_false, i_bool, i_bool1, Bool.false_eq_true, Bool.true_eq_false, reduceCtorEq, i_neg1, i_neg2, i_neg3, i_neg4, i_neg5, i_neg6, i_neg7, i_neg8, i_neg9, i_nega, i_negb, i_negc, i_max2, i_min2])
  refine c_Rlength ht hr ?_
  rw [hz, sz_s]
  try simp (disch := omega) only [no0, no1, nz1, nz2, nz3, nz4, nz5, nz7, nz8, Classical.not_not, bz0, bz1, wi_nil, ld_0, ld_s, isIv_I, isLv_L, isRv_R, true_and, and_true, lset_0, lset_1, lset_s, avw_I, avw_L, avw_R, clr_cons, clr_nil, kst_0, kst_1, kstL_0, kstL_1, addk_I, pA_0, pA_s, pD_0, pD_s, wid_nil, wid_cons, rcv_c, putv_I, putv_L, List.length_cons, List.length_nil, List.set_cons_zero, List.set_cons_succ, not_false_eq_true, Nat.reduceMod, Nat.reduceDiv, Nat.reduceEqDiff, Nat.reduceLT, Nat.reduceLeDiff, Nat.reduceAdd, Nat.reduceSub, reduceIte, Nat.lt_irrefl, Nat.zero_ne_one, Nat.one_ne_zero, Nat.zero_add, List.nil_append, List.cons_append, Option.toList_some, Option.toList_none, forall_const, false_implies, true_implies, false_or, or_false, true_or, or_true, i_le, i_lt, i_eq, i_eq0, i_lt0, i_0le, i_0lt, i_le0, i_in1, i_cl, nI_add, pk_mul, pk_sub, i_div, i_rem, i_sh1, i_bit, i_or, i_and, i_andn, nt_le, nf_le, nt_lt, nf_lt, nt_eq, nf_eq, not_true_eq_false, and_self, and_false, false_and, eq_self, Bool.toNat_true, Bool.toNat_false, i_bool, i_bool1, Bool.false_eq_true, Bool.true_eq_false, reduceCtorEq, i_neg1, i_neg2, i_neg3, i_neg4, i_neg5, i_neg6, i_neg7, i_neg8, i_neg9, i_nega, i_negb, i_negc, i_max2, i_min2, wi_nil]
  repeat (
    first
    | refine s_X8_agrees_0 ?_
    | refine s_X8_agrees_8 ?_
    | refine s_X8_agrees_55 ?_
    | refine s_X8_agrees_58 ?_
    | refine s_X8_agrees_74 ?_
    | refine s_X8_agrees_79 ?_
    | refine s_X8_agrees_85 ?_
    simp (disch := omega) only [B_X8_agrees_0, wi_aload_n, wi_getfield, fldv_7_0, fds_7_0, cnt_7, wi_iload_n, wi_invokevirtual, cnt_3, B_X8_agrees_8, wi_istore, wi_iconst, B_X8_agrees_13, wi_iload, wi_iadd, wi_icmp_ge, fldv_7_3, fds_7_3, fldv_6_3, fds_6_3, cnt_6, wi_iaload, fldv_6_4, fds_6_4, cnt_23, aTy_23, aLn_23, arr_23, cnt_24, aTy_24, aLn_24, arr_24, B_X8_agrees_55, wi_invokestatic, B_X8_agrees_58, B_X8_agrees_74, wi_icmp_eq, wi_ireturn, B_X8_agrees_79, wi_iinc, wi_goto, B_X8_agrees_85, no0, no1, nz1, nz2, nz3, nz4, nz5, nz7, nz8, Classical.not_not, bz0, bz1, wi_nil, ld_0, ld_s, isIv_I, isLv_L, isRv_R, true_and, and_true, lset_0, lset_1, lset_s, avw_I, avw_L, avw_R, clr_cons, clr_nil, kst_0, kst_1, kstL_0, kstL_1, addk_I, pA_0, pA_s, pD_0, pD_s, wid_nil, wid_cons, rcv_c, putv_I, putv_L, List.length_cons, List.length_nil, List.set_cons_zero, List.set_cons_succ, not_false_eq_true, Nat.reduceMod, Nat.reduceDiv, Nat.reduceEqDiff, Nat.reduceLT, Nat.reduceLeDiff, Nat.reduceAdd, Nat.reduceSub, reduceIte, Nat.lt_irrefl, Nat.zero_ne_one, Nat.one_ne_zero, Nat.zero_add, List.nil_append, List.cons_append, Option.toList_some, Option.toList_none, forall_const, false_implies, true_implies, false_or, or_false, true_or, or_true, i_le, i_lt, i_eq, i_eq0, i_lt0, i_0le, i_0lt, i_le0, i_in1, i_cl, nI_add, pk_mul, pk_sub, i_div, i_rem, i_sh1, i_bit, i_or, i_and, i_andn, nt_le, nf_le, nt_lt, nf_lt, nt_eq, nf_eq, not_true_eq_false, and_self, and_false, false_and, eq_self, Bool.toNat_true, Bool.toNat_false, i_bool, i_bool1, Bool.false_eq_true, Bool.true_eq_false, reduceCtorEq, i_neg1, i_neg2, i_neg3, i_neg4, i_neg5, i_neg6, i_neg7, i_neg8, i_neg9, i_nega, i_negb, i_negc, i_max2, i_min2])
  exact l_agrees hy ho ht hi hr hz hh hp hkd he hhb q h 0 (by omega) rfl
theorem l_isTold {i r h kd e hb : Nat} (hm : YrM S 40 Y) (ho : YOk 40 Y) (ht : Tb S 31 32 6 40 rs rc) (hi : i < Y 6 0) (hr : r < 6) (hz : rs r = 2 * h + 1) (hh : h ≤ 20) (hp : prB rc r h = true) (hkd : kd < 6) (he : e ≤ 9) (hhb : hb ≤ 9) (q : P (some (aI (nI (agS rc r (Y 3 i) (Y 4 i) kd e hb h).toNat))) S) : ∀ (m j : Nat), j + m = h → wpX (d + 3) mX9_isTold 6 [aR 8 0, aI (nI i), aI (nI kd), aI (nI e), aI (nI hb), aI (nI r), aI (nI (agS rc r (Y 3 i) (Y 4 i) kd e hb j).toNat), aI (nI (2 * j))] [] S P := by
  have hn5 := ho.1.1
  have hbi := ho.2 i hi
  have hs := (ht r hr).1
  rw [hz, sz_s] at hs
  intro m
  induction m with
  | zero =>
    intro j hj
    have e : j = h := by omega
    subst e
    refine s_X9_isTold_6 ?_
    simp (disch := omega) only [B_X9_isTold_6, wi_iload, wi_aload_n, wi_getfield, fldv_8_5, fds_8_5, cnt_8, wi_iaload, wi_icmp_ge, wi_if_eq, wi_iload_n, fldv_8_13, fds_8_13, fldv_8_20, fds_8_20, wi_bipush, wi_iadd, wi_invokevirtual, cnt_31, aTy_31, aLn_31, arr_31, cnt_38, aTy_38, aLn_38, arr_38, cnt_40, aTy_40, aLn_40, arr_40, no0, no1, nz1, nz2, nz3, nz4, nz5, nz7, nz8, Classical.not_not, bz0, bz1, wi_nil, ld_0, ld_s, isIv_I, isLv_L, isRv_R, true_and, and_true, lset_0, lset_1, lset_s, avw_I, avw_L, avw_R, clr_cons, clr_nil, kst_0, kst_1, kstL_0, kstL_1, addk_I, pA_0, pA_s, pD_0, pD_s, wid_nil, wid_cons, rcv_c, putv_I, putv_L, List.length_cons, List.length_nil, List.set_cons_zero, List.set_cons_succ, not_false_eq_true, Nat.reduceMod, Nat.reduceDiv, Nat.reduceEqDiff, Nat.reduceLT, Nat.reduceLeDiff, Nat.reduceAdd, Nat.reduceSub, reduceIte, Nat.lt_irrefl, Nat.zero_ne_one, Nat.one_ne_zero, Nat.zero_add, List.nil_append, List.cons_append, Option.toList_some, Option.toList_none, forall_const, false_implies, true_implies, false_or, or_false, true_or, or_true, i_le, i_lt, i_eq, i_eq0, i_lt0, i_0le, i_0lt, i_le0, i_in1, i_cl, nI_add, pk_mul, pk_sub, i_div, i_rem, i_sh1, i_bit, i_or, i_and, i_andn, nt_le, nf_le, nt_lt, nf_lt, nt_eq, nf_eq, not_true_eq_false, and_self, and_false, false_and, eq_self, Bool.toNat_true, Bool.toNat_false, i_bool, i_bool1, Bool.false_eq_true, Bool.true_eq_false, reduceCtorEq, i_neg1, i_neg2, i_neg3, i_neg4, i_neg5, i_neg6, i_neg7, i_neg8, i_neg9, i_nega, i_negb, i_negc, i_max2, i_min2, hs]
    try simp (disch := omega) only [no0, no1, nz1, nz2, nz3, nz4, nz5, nz7, nz8, Classical.not_not, bz0, bz1, wi_nil, ld_0, ld_s, isIv_I, isLv_L, isRv_R, true_and, and_true, lset_0, lset_1, lset_s, avw_I, avw_L, avw_R, clr_cons, clr_nil, kst_0, kst_1, kstL_0, kstL_1, addk_I, pA_0, pA_s, pD_0, pD_s, wid_nil, wid_cons, rcv_c, putv_I, putv_L, List.length_cons, List.length_nil, List.set_cons_zero, List.set_cons_succ, not_false_eq_true, Nat.reduceMod, Nat.reduceDiv, Nat.reduceEqDiff, Nat.reduceLT, Nat.reduceLeDiff, Nat.reduceAdd, Nat.reduceSub, reduceIte, Nat.lt_irrefl, Nat.zero_ne_one, Nat.one_ne_zero, Nat.zero_add, List.nil_append, List.cons_append, Option.toList_some, Option.toList_none, forall_const, false_implies, true_implies, false_or, or_false, true_or, or_true, i_le, i_lt, i_eq, i_eq0, i_lt0, i_0le, i_0lt, i_le0, i_in1, i_cl, nI_add, pk_mul, pk_sub, i_div, i_rem, i_sh1, i_bit, i_or, i_and, i_andn, nt_le, nf_le, nt_lt, nf_lt, nt_eq, nf_eq, not_true_eq_false, and_self, and_false, false_and, eq_self, Bool.toNat_true, Bool.toNat_false, i_bool, i_bool1, Bool.false_eq_true, Bool.true_eq_false, reduceCtorEq, i_neg1, i_neg2, i_neg3, i_neg4, i_neg5, i_neg6, i_neg7, i_neg8, i_neg9, i_nega, i_negb, i_negc, i_max2, i_min2, bz2, wi_nil]
    repeat (
      first
      | refine s_X9_isTold_0 ?_
      | refine s_X9_isTold_50 ?_
      | refine s_X9_isTold_53 ?_
      | refine s_X9_isTold_63 ?_
      | refine s_X9_isTold_70 ?_
      | refine s_X9_isTold_71 ?_
      | refine s_X9_isTold_79 ?_
      simp (disch := omega) only [B_X9_isTold_0, wi_iconst, wi_istore, B_X9_isTold_6, wi_iload, wi_aload_n, wi_getfield, fldv_8_5, fds_8_5, cnt_8, wi_iaload, wi_icmp_ge, wi_if_eq, wi_iload_n, fldv_8_13, fds_8_13, fldv_8_20, fds_8_20, wi_bipush, wi_iadd, wi_invokevirtual, cnt_31, aTy_31, aLn_31, arr_31, cnt_38, aTy_38, aLn_38, arr_38, cnt_40, aTy_40, aLn_40, arr_40, B_X9_isTold_50, wi_invokestatic, B_X9_isTold_53, B_X9_isTold_63, wi_icmp_ne, wi_goto, B_X9_isTold_70, B_X9_isTold_71, wi_iinc, B_X9_isTold_79, wi_ireturn, no0, no1, nz1, nz2, nz3, nz4, nz5, nz7, nz8, Classical.not_not, bz0, bz1, wi_nil, ld_0, ld_s, isIv_I, isLv_L, isRv_R, true_and, and_true, lset_0, lset_1, lset_s, avw_I, avw_L, avw_R, clr_cons, clr_nil, kst_0, kst_1, kstL_0, kstL_1, addk_I, pA_0, pA_s, pD_0, pD_s, wid_nil, wid_cons, rcv_c, putv_I, putv_L, List.length_cons, List.length_nil, List.set_cons_zero, List.set_cons_succ, not_false_eq_true, Nat.reduceMod, Nat.reduceDiv, Nat.reduceEqDiff, Nat.reduceLT, Nat.reduceLeDiff, Nat.reduceAdd, Nat.reduceSub, reduceIte, Nat.lt_irrefl, Nat.zero_ne_one, Nat.one_ne_zero, Nat.zero_add, List.nil_append, List.cons_append, Option.toList_some, Option.toList_none, forall_const, false_implies, true_implies, false_or, or_false, true_or, or_true, i_le, i_lt, i_eq, i_eq0, i_lt0, i_0le, i_0lt, i_le0, i_in1, i_cl, nI_add, pk_mul, pk_sub, i_div, i_rem, i_sh1, i_bit, i_or, i_and, i_andn, nt_le, nf_le, nt_lt, nf_lt, nt_eq, nf_eq, not_true_eq_false, and_self, and_false, false_and, eq_self, Bool.toNat_true, Bool.toNat_false, i_bool, i_bool1, Bool.false_eq_true, Bool.true_eq_false, reduceCtorEq, i_neg1, i_neg2, i_neg3, i_neg4, i_neg5, i_neg6, i_neg7, i_neg8, i_neg9, i_nega, i_negb, i_negc, i_max2, i_min2, bz2])
    exact q
  | succ m ih =>
    intro j hj
    have hnx := ih (j + 1) (by omega)
    rw [show 2 * (j + 1) = 2 * j + 2 by omega, agS] at hnx
    obtain ⟨n1, n2, n3, n4, n5⟩ := pk_nat (pr_at hp (show j < h by omega))
    have hpl := prc_le (k := kd) (h := hb) (c := Y 4 i) (d := dyN rc r j) he hbi.2.2.2.1
    cases ha : agS rc r (Y 3 i) (Y 4 i) kd e hb j
    · rw [ha, Bool.false_and] at hnx
      refine s_X9_isTold_6 ?_
      simp (disch := omega) only [B_X9_isTold_6, wi_iload, wi_aload_n, wi_getfield, fldv_8_5, fds_8_5, cnt_8, wi_iaload, wi_icmp_ge, wi_if_eq, wi_iload_n, fldv_8_13, fds_8_13, fldv_8_20, fds_8_20, wi_bipush, wi_iadd, wi_invokevirtual, cnt_31, aTy_31, aLn_31, arr_31, cnt_38, aTy_38, aLn_38, arr_38, cnt_40, aTy_40, aLn_40, arr_40, no0, no1, nz1, nz2, nz3, nz4, nz5, nz7, nz8, Classical.not_not, bz0, bz1, wi_nil, ld_0, ld_s, isIv_I, isLv_L, isRv_R, true_and, and_true, lset_0, lset_1, lset_s, avw_I, avw_L, avw_R, clr_cons, clr_nil, kst_0, kst_1, kstL_0, kstL_1, addk_I, pA_0, pA_s, pD_0, pD_s, wid_nil, wid_cons, rcv_c, putv_I, putv_L, List.length_cons, List.length_nil, List.set_cons_zero, List.set_cons_succ, not_false_eq_true, Nat.reduceMod, Nat.reduceDiv, Nat.reduceEqDiff, Nat.reduceLT, Nat.reduceLeDiff, Nat.reduceAdd, Nat.reduceSub, reduceIte, Nat.lt_irrefl, Nat.zero_ne_one, Nat.one_ne_zero, Nat.zero_add, List.nil_append, List.cons_append, Option.toList_some, Option.toList_none, forall_const, false_implies, true_implies, false_or, or_false, true_or, or_true, i_le, i_lt, i_eq, i_eq0, i_lt0, i_0le, i_0lt, i_le0, i_in1, i_cl, nI_add, pk_mul, pk_sub, i_div, i_rem, i_sh1, i_bit, i_or, i_and, i_andn, nt_le, nf_le, nt_lt, nf_lt, nt_eq, nf_eq, not_true_eq_false, and_self, and_false, false_and, eq_self, Bool.toNat_true, Bool.toNat_false, i_bool, i_bool1, Bool.false_eq_true, Bool.true_eq_false, reduceCtorEq, i_neg1, i_neg2, i_neg3, i_neg4, i_neg5, i_neg6, i_neg7, i_neg8, i_neg9, i_nega, i_negb, i_negc, i_max2, i_min2, hs]
      try simp (disch := omega) only [no0, no1, nz1, nz2, nz3, nz4, nz5, nz7, nz8, Classical.not_not, bz0, bz1, wi_nil, ld_0, ld_s, isIv_I, isLv_L, isRv_R, true_and, and_true, lset_0, lset_1, lset_s, avw_I, avw_L, avw_R, clr_cons, clr_nil, kst_0, kst_1, kstL_0, kstL_1, addk_I, pA_0, pA_s, pD_0, pD_s, wid_nil, wid_cons, rcv_c, putv_I, putv_L, List.length_cons, List.length_nil, List.set_cons_zero, List.set_cons_succ, not_false_eq_true, Nat.reduceMod, Nat.reduceDiv, Nat.reduceEqDiff, Nat.reduceLT, Nat.reduceLeDiff, Nat.reduceAdd, Nat.reduceSub, reduceIte, Nat.lt_irrefl, Nat.zero_ne_one, Nat.one_ne_zero, Nat.zero_add, List.nil_append, List.cons_append, Option.toList_some, Option.toList_none, forall_const, false_implies, true_implies, false_or, or_false, true_or, or_true, i_le, i_lt, i_eq, i_eq0, i_lt0, i_0le, i_0lt, i_le0, i_in1, i_cl, nI_add, pk_mul, pk_sub, i_div, i_rem, i_sh1, i_bit, i_or, i_and, i_andn, nt_le, nf_le, nt_lt, nf_lt, nt_eq, nf_eq, not_true_eq_false, and_self, and_false, false_and, eq_self, Bool.toNat_true, Bool.toNat_false, i_bool, i_bool1, Bool.false_eq_true, Bool.true_eq_false, reduceCtorEq, i_neg1, i_neg2, i_neg3, i_neg4, i_neg5, i_neg6, i_neg7, i_neg8, i_neg9, i_nega, i_negb, i_negc, i_max2, i_min2, wi_nil]
      repeat (
        first
        | refine s_X9_isTold_0 ?_
        | refine s_X9_isTold_50 ?_
        | refine s_X9_isTold_53 ?_
        | refine s_X9_isTold_63 ?_
        | refine s_X9_isTold_70 ?_
        | refine s_X9_isTold_71 ?_
        | refine s_X9_isTold_79 ?_
        simp (disch := omega) only [B_X9_isTold_0, wi_iconst, wi_istore, B_X9_isTold_6, wi_iload, wi_aload_n, wi_getfield, fldv_8_5, fds_8_5, cnt_8, wi_iaload, wi_icmp_ge, wi_if_eq, wi_iload_n, fldv_8_13, fds_8_13, fldv_8_20, fds_8_20, wi_bipush, wi_iadd, wi_invokevirtual, cnt_31, aTy_31, aLn_31, arr_31, cnt_38, aTy_38, aLn_38, arr_38, cnt_40, aTy_40, aLn_40, arr_40, B_X9_isTold_50, wi_invokestatic, B_X9_isTold_53, B_X9_isTold_63, wi_icmp_ne, wi_goto, B_X9_isTold_70, B_X9_isTold_71, wi_iinc, B_X9_isTold_79, wi_ireturn, no0, no1, nz1, nz2, nz3, nz4, nz5, nz7, nz8, Classical.not_not, bz0, bz1, wi_nil, ld_0, ld_s, isIv_I, isLv_L, isRv_R, true_and, and_true, lset_0, lset_1, lset_s, avw_I, avw_L, avw_R, clr_cons, clr_nil, kst_0, kst_1, kstL_0, kstL_1, addk_I, pA_0, pA_s, pD_0, pD_s, wid_nil, wid_cons, rcv_c, putv_I, putv_L, List.length_cons, List.length_nil, List.set_cons_zero, List.set_cons_succ, not_false_eq_true, Nat.reduceMod, Nat.reduceDiv, Nat.reduceEqDiff, Nat.reduceLT, Nat.reduceLeDiff, Nat.reduceAdd, Nat.reduceSub, reduceIte, Nat.lt_irrefl, Nat.zero_ne_one, Nat.one_ne_zero, Nat.zero_add, List.nil_append, List.cons_append, Option.toList_some, Option.toList_none, forall_const, false_implies, true_implies, false_or, or_false, true_or, or_true, i_le, i_lt, i_eq, i_eq0, i_lt0, i_0le, i_0lt, i_le0, i_in1, i_cl, nI_add, pk_mul, pk_sub, i_div, i_rem, i_sh1, i_bit, i_or, i_and, i_andn, nt_le, nf_le, nt_lt, nf_lt, nt_eq, nf_eq, not_true_eq_false, and_self, and_false, false_and, eq_self, Bool.toNat_true, Bool.toNat_false, i_bool, i_bool1, Bool.false_eq_true, Bool.true_eq_false, reduceCtorEq, i_neg1, i_neg2, i_neg3, i_neg4, i_neg5, i_neg6, i_neg7, i_neg8, i_neg9, i_nega, i_negb, i_negc, i_max2, i_min2])
      exact hnx
    · rw [ha, Bool.true_and] at hnx
      refine s_X9_isTold_6 ?_
      simp (disch := omega) only [B_X9_isTold_6, wi_iload, wi_aload_n, wi_getfield, fldv_8_5, fds_8_5, cnt_8, wi_iaload, wi_icmp_ge, wi_if_eq, wi_iload_n, fldv_8_13, fds_8_13, fldv_8_20, fds_8_20, wi_bipush, wi_iadd, wi_invokevirtual, cnt_31, aTy_31, aLn_31, arr_31, cnt_38, aTy_38, aLn_38, arr_38, cnt_40, aTy_40, aLn_40, arr_40, no0, no1, nz1, nz2, nz3, nz4, nz5, nz7, nz8, Classical.not_not, bz0, bz1, wi_nil, ld_0, ld_s, isIv_I, isLv_L, isRv_R, true_and, and_true, lset_0, lset_1, lset_s, avw_I, avw_L, avw_R, clr_cons, clr_nil, kst_0, kst_1, kstL_0, kstL_1, addk_I, pA_0, pA_s, pD_0, pD_s, wid_nil, wid_cons, rcv_c, putv_I, putv_L, List.length_cons, List.length_nil, List.set_cons_zero, List.set_cons_succ, not_false_eq_true, Nat.reduceMod, Nat.reduceDiv, Nat.reduceEqDiff, Nat.reduceLT, Nat.reduceLeDiff, Nat.reduceAdd, Nat.reduceSub, reduceIte, Nat.lt_irrefl, Nat.zero_ne_one, Nat.one_ne_zero, Nat.zero_add, List.nil_append, List.cons_append, Option.toList_some, Option.toList_none, forall_const, false_implies, true_implies, false_or, or_false, true_or, or_true, i_le, i_lt, i_eq, i_eq0, i_lt0, i_0le, i_0lt, i_le0, i_in1, i_cl, nI_add, pk_mul, pk_sub, i_div, i_rem, i_sh1, i_bit, i_or, i_and, i_andn, nt_le, nf_le, nt_lt, nf_lt, nt_eq, nf_eq, not_true_eq_false, and_self, and_false, false_and, eq_self, Bool.toNat_true, Bool.toNat_false, i_bool, i_bool1, Bool.false_eq_true, Bool.true_eq_false, reduceCtorEq, i_neg1, i_neg2, i_neg3, i_neg4, i_neg5, i_neg6, i_neg7, i_neg8, i_neg9, i_nega, i_negb, i_negc, i_max2, i_min2, hs, (m_pull hm), (m_ch hm)]
      refine c_rowAt ht hr (by omega) ?_
      rw [n1]
      try simp (disch := omega) only [no0, no1, nz1, nz2, nz3, nz4, nz5, nz7, nz8, Classical.not_not, bz0, bz1, wi_nil, ld_0, ld_s, isIv_I, isLv_L, isRv_R, true_and, and_true, lset_0, lset_1, lset_s, avw_I, avw_L, avw_R, clr_cons, clr_nil, kst_0, kst_1, kstL_0, kstL_1, addk_I, pA_0, pA_s, pD_0, pD_s, wid_nil, wid_cons, rcv_c, putv_I, putv_L, List.length_cons, List.length_nil, List.set_cons_zero, List.set_cons_succ, not_false_eq_true, Nat.reduceMod, Nat.reduceDiv, Nat.reduceEqDiff, Nat.reduceLT, Nat.reduceLeDiff, Nat.reduceAdd, Nat.reduceSub, reduceIte, Nat.lt_irrefl, Nat.zero_ne_one, Nat.one_ne_zero, Nat.zero_add, List.nil_append, List.cons_append, Option.toList_some, Option.toList_none, forall_const, false_implies, true_implies, false_or, or_false, true_or, or_true, i_le, i_lt, i_eq, i_eq0, i_lt0, i_0le, i_0lt, i_le0, i_in1, i_cl, nI_add, pk_mul, pk_sub, i_div, i_rem, i_sh1, i_bit, i_or, i_and, i_andn, nt_le, nf_le, nt_lt, nf_lt, nt_eq, nf_eq, not_true_eq_false, and_self, and_false, false_and, eq_self, Bool.toNat_true, Bool.toNat_false, i_bool, i_bool1, Bool.false_eq_true, Bool.true_eq_false, reduceCtorEq, i_neg1, i_neg2, i_neg3, i_neg4, i_neg5, i_neg6, i_neg7, i_neg8, i_neg9, i_nega, i_negb, i_negc, i_max2, i_min2, wi_nil]
      repeat (
        first
        | refine s_X9_isTold_0 ?_
        | refine s_X9_isTold_50 ?_
        | refine s_X9_isTold_53 ?_
        | refine s_X9_isTold_63 ?_
        | refine s_X9_isTold_70 ?_
        | refine s_X9_isTold_71 ?_
        | refine s_X9_isTold_79 ?_
        simp (disch := omega) only [B_X9_isTold_0, wi_iconst, wi_istore, B_X9_isTold_6, wi_iload, wi_aload_n, wi_getfield, fldv_8_5, fds_8_5, cnt_8, wi_iaload, wi_icmp_ge, wi_if_eq, wi_iload_n, fldv_8_13, fds_8_13, fldv_8_20, fds_8_20, wi_bipush, wi_iadd, wi_invokevirtual, cnt_31, aTy_31, aLn_31, arr_31, cnt_38, aTy_38, aLn_38, arr_38, cnt_40, aTy_40, aLn_40, arr_40, B_X9_isTold_50, wi_invokestatic, B_X9_isTold_53, B_X9_isTold_63, wi_icmp_ne, wi_goto, B_X9_isTold_70, B_X9_isTold_71, wi_iinc, B_X9_isTold_79, wi_ireturn, no0, no1, nz1, nz2, nz3, nz4, nz5, nz7, nz8, Classical.not_not, bz0, bz1, wi_nil, ld_0, ld_s, isIv_I, isLv_L, isRv_R, true_and, and_true, lset_0, lset_1, lset_s, avw_I, avw_L, avw_R, clr_cons, clr_nil, kst_0, kst_1, kstL_0, kstL_1, addk_I, pA_0, pA_s, pD_0, pD_s, wid_nil, wid_cons, rcv_c, putv_I, putv_L, List.length_cons, List.length_nil, List.set_cons_zero, List.set_cons_succ, not_false_eq_true, Nat.reduceMod, Nat.reduceDiv, Nat.reduceEqDiff, Nat.reduceLT, Nat.reduceLeDiff, Nat.reduceAdd, Nat.reduceSub, reduceIte, Nat.lt_irrefl, Nat.zero_ne_one, Nat.one_ne_zero, Nat.zero_add, List.nil_append, List.cons_append, Option.toList_some, Option.toList_none, forall_const, false_implies, true_implies, false_or, or_false, true_or, or_true, i_le, i_lt, i_eq, i_eq0, i_lt0, i_0le, i_0lt, i_le0, i_in1, i_cl, nI_add, pk_mul, pk_sub, i_div, i_rem, i_sh1, i_bit, i_or, i_and, i_andn, nt_le, nf_le, nt_lt, nf_lt, nt_eq, nf_eq, not_true_eq_false, and_self, and_false, false_and, eq_self, Bool.toNat_true, Bool.toNat_false, i_bool, i_bool1, Bool.false_eq_true, Bool.true_eq_false, reduceCtorEq, i_neg1, i_neg2, i_neg3, i_neg4, i_neg5, i_neg6, i_neg7, i_neg8, i_neg9, i_nega, i_negb, i_negc, i_max2, i_min2])
      refine c_costBy hkd he hhb hbi.2.2.2.1 (by omega) (by omega) ?_
      try simp (disch := omega) only [no0, no1, nz1, nz2, nz3, nz4, nz5, nz7, nz8, Classical.not_not, bz0, bz1, wi_nil, ld_0, ld_s, isIv_I, isLv_L, isRv_R, true_and, and_true, lset_0, lset_1, lset_s, avw_I, avw_L, avw_R, clr_cons, clr_nil, kst_0, kst_1, kstL_0, kstL_1, addk_I, pA_0, pA_s, pD_0, pD_s, wid_nil, wid_cons, rcv_c, putv_I, putv_L, List.length_cons, List.length_nil, List.set_cons_zero, List.set_cons_succ, not_false_eq_true, Nat.reduceMod, Nat.reduceDiv, Nat.reduceEqDiff, Nat.reduceLT, Nat.reduceLeDiff, Nat.reduceAdd, Nat.reduceSub, reduceIte, Nat.lt_irrefl, Nat.zero_ne_one, Nat.one_ne_zero, Nat.zero_add, List.nil_append, List.cons_append, Option.toList_some, Option.toList_none, forall_const, false_implies, true_implies, false_or, or_false, true_or, or_true, i_le, i_lt, i_eq, i_eq0, i_lt0, i_0le, i_0lt, i_le0, i_in1, i_cl, nI_add, pk_mul, pk_sub, i_div, i_rem, i_sh1, i_bit, i_or, i_and, i_andn, nt_le, nf_le, nt_lt, nf_lt, nt_eq, nf_eq, not_true_eq_false, and_self, and_false, false_and, eq_self, Bool.toNat_true, Bool.toNat_false, i_bool, i_bool1, Bool.false_eq_true, Bool.true_eq_false, reduceCtorEq, i_neg1, i_neg2, i_neg3, i_neg4, i_neg5, i_neg6, i_neg7, i_neg8, i_neg9, i_nega, i_negb, i_negc, i_max2, i_min2, wi_nil]
      repeat (
        first
        | refine s_X9_isTold_0 ?_
        | refine s_X9_isTold_50 ?_
        | refine s_X9_isTold_53 ?_
        | refine s_X9_isTold_63 ?_
        | refine s_X9_isTold_70 ?_
        | refine s_X9_isTold_71 ?_
        | refine s_X9_isTold_79 ?_
        simp (disch := omega) only [B_X9_isTold_0, wi_iconst, wi_istore, B_X9_isTold_6, wi_iload, wi_aload_n, wi_getfield, fldv_8_5, fds_8_5, cnt_8, wi_iaload, wi_icmp_ge, wi_if_eq, wi_iload_n, fldv_8_13, fds_8_13, fldv_8_20, fds_8_20, wi_bipush, wi_iadd, wi_invokevirtual, cnt_31, aTy_31, aLn_31, arr_31, cnt_38, aTy_38, aLn_38, arr_38, cnt_40, aTy_40, aLn_40, arr_40, B_X9_isTold_50, wi_invokestatic, B_X9_isTold_53, B_X9_isTold_63, wi_icmp_ne, wi_goto, B_X9_isTold_70, B_X9_isTold_71, wi_iinc, B_X9_isTold_79, wi_ireturn, no0, no1, nz1, nz2, nz3, nz4, nz5, nz7, nz8, Classical.not_not, bz0, bz1, wi_nil, ld_0, ld_s, isIv_I, isLv_L, isRv_R, true_and, and_true, lset_0, lset_1, lset_s, avw_I, avw_L, avw_R, clr_cons, clr_nil, kst_0, kst_1, kstL_0, kstL_1, addk_I, pA_0, pA_s, pD_0, pD_s, wid_nil, wid_cons, rcv_c, putv_I, putv_L, List.length_cons, List.length_nil, List.set_cons_zero, List.set_cons_succ, not_false_eq_true, Nat.reduceMod, Nat.reduceDiv, Nat.reduceEqDiff, Nat.reduceLT, Nat.reduceLeDiff, Nat.reduceAdd, Nat.reduceSub, reduceIte, Nat.lt_irrefl, Nat.zero_ne_one, Nat.one_ne_zero, Nat.zero_add, List.nil_append, List.cons_append, Option.toList_some, Option.toList_none, forall_const, false_implies, true_implies, false_or, or_false, true_or, or_true, i_le, i_lt, i_eq, i_eq0, i_lt0, i_0le, i_0lt, i_le0, i_in1, i_cl, nI_add, pk_mul, pk_sub, i_div, i_rem, i_sh1, i_bit, i_or, i_and, i_andn, nt_le, nf_le, nt_lt, nf_lt, nt_eq, nf_eq, not_true_eq_false, and_self, and_false, false_and, eq_self, Bool.toNat_true, Bool.toNat_false, i_bool, i_bool1, Bool.false_eq_true, Bool.true_eq_false, reduceCtorEq, i_neg1, i_neg2, i_neg3, i_neg4, i_neg5, i_neg6, i_neg7, i_neg8, i_neg9, i_nega, i_negb, i_negc, i_max2, i_min2])
      refine c_rowAt ht hr (by omega) ?_
      rw [n4]
      by_cases c : prc kd e hb (Y 3 i) (Y 4 i) (dyN rc r j) = pyN rc r j
      · rw [decide_eq_true c] at hnx
        try simp (disch := omega) only [no0, no1, nz1, nz2, nz3, nz4, nz5, nz7, nz8, Classical.not_not, bz0, bz1, wi_nil, ld_0, ld_s, isIv_I, isLv_L, isRv_R, true_and, and_true, lset_0, lset_1, lset_s, avw_I, avw_L, avw_R, clr_cons, clr_nil, kst_0, kst_1, kstL_0, kstL_1, addk_I, pA_0, pA_s, pD_0, pD_s, wid_nil, wid_cons, rcv_c, putv_I, putv_L, List.length_cons, List.length_nil, List.set_cons_zero, List.set_cons_succ, not_false_eq_true, Nat.reduceMod, Nat.reduceDiv, Nat.reduceEqDiff, Nat.reduceLT, Nat.reduceLeDiff, Nat.reduceAdd, Nat.reduceSub, reduceIte, Nat.lt_irrefl, Nat.zero_ne_one, Nat.one_ne_zero, Nat.zero_add, List.nil_append, List.cons_append, Option.toList_some, Option.toList_none, forall_const, false_implies, true_implies, false_or, or_false, true_or, or_true, i_le, i_lt, i_eq, i_eq0, i_lt0, i_0le, i_0lt, i_le0, i_in1, i_cl, nI_add, pk_mul, pk_sub, i_div, i_rem, i_sh1, i_bit, i_or, i_and, i_andn, nt_le, nf_le, nt_lt, nf_lt, nt_eq, nf_eq, not_true_eq_false, and_self, and_false, false_and, eq_self, Bool.toNat_true, Bool.toNat_false, i_bool, i_bool1, Bool.false_eq_true, Bool.true_eq_false, reduceCtorEq, i_neg1, i_neg2, i_neg3, i_neg4, i_neg5, i_neg6, i_neg7, i_neg8, i_neg9, i_nega, i_negb, i_negc, i_max2, i_min2, wi_nil]
        repeat (
          first
          | refine s_X9_isTold_0 ?_
          | refine s_X9_isTold_50 ?_
          | refine s_X9_isTold_53 ?_
          | refine s_X9_isTold_63 ?_
          | refine s_X9_isTold_70 ?_
          | refine s_X9_isTold_71 ?_
          | refine s_X9_isTold_79 ?_
          simp (disch := omega) only [B_X9_isTold_0, wi_iconst, wi_istore, B_X9_isTold_6, wi_iload, wi_aload_n, wi_getfield, fldv_8_5, fds_8_5, cnt_8, wi_iaload, wi_icmp_ge, wi_if_eq, wi_iload_n, fldv_8_13, fds_8_13, fldv_8_20, fds_8_20, wi_bipush, wi_iadd, wi_invokevirtual, cnt_31, aTy_31, aLn_31, arr_31, cnt_38, aTy_38, aLn_38, arr_38, cnt_40, aTy_40, aLn_40, arr_40, B_X9_isTold_50, wi_invokestatic, B_X9_isTold_53, B_X9_isTold_63, wi_icmp_ne, wi_goto, B_X9_isTold_70, B_X9_isTold_71, wi_iinc, B_X9_isTold_79, wi_ireturn, no0, no1, nz1, nz2, nz3, nz4, nz5, nz7, nz8, Classical.not_not, bz0, bz1, wi_nil, ld_0, ld_s, isIv_I, isLv_L, isRv_R, true_and, and_true, lset_0, lset_1, lset_s, avw_I, avw_L, avw_R, clr_cons, clr_nil, kst_0, kst_1, kstL_0, kstL_1, addk_I, pA_0, pA_s, pD_0, pD_s, wid_nil, wid_cons, rcv_c, putv_I, putv_L, List.length_cons, List.length_nil, List.set_cons_zero, List.set_cons_succ, not_false_eq_true, Nat.reduceMod, Nat.reduceDiv, Nat.reduceEqDiff, Nat.reduceLT, Nat.reduceLeDiff, Nat.reduceAdd, Nat.reduceSub, reduceIte, Nat.lt_irrefl, Nat.zero_ne_one, Nat.one_ne_zero, Nat.zero_add, List.nil_append, List.cons_append, Option.toList_some, Option.toList_none, forall_const, false_implies, true_implies, false_or, or_false, true_or, or_true, i_le, i_lt, i_eq, i_eq0, i_lt0, i_0le, i_0lt, i_le0, i_in1, i_cl, nI_add, pk_mul, pk_sub, i_div, i_rem, i_sh1, i_bit, i_or, i_and, i_andn, nt_le, nf_le, nt_lt, nf_lt, nt_eq, nf_eq, not_true_eq_false, and_self, and_false, false_and, eq_self, Bool.toNat_true, Bool.toNat_false, i_bool, i_bool1, Bool.false_eq_true, Bool.true_eq_false, reduceCtorEq, i_neg1, i_neg2, i_neg3, i_neg4, i_neg5, i_neg6, i_neg7, i_neg8, i_neg9, i_nega, i_negb, i_negc, i_max2, i_min2])
        exact hnx
      · rw [decide_eq_false c] at hnx
        try simp (disch := omega) only [no0, no1, nz1, nz2, nz3, nz4, nz5, nz7, nz8, Classical.not_not, bz0, bz1, wi_nil, ld_0, ld_s, isIv_I, isLv_L, isRv_R, true_and, and_true, lset_0, lset_1, lset_s, avw_I, avw_L, avw_R, clr_cons, clr_nil, kst_0, kst_1, kstL_0, kstL_1, addk_I, pA_0, pA_s, pD_0, pD_s, wid_nil, wid_cons, rcv_c, putv_I, putv_L, List.length_cons, List.length_nil, List.set_cons_zero, List.set_cons_succ, not_false_eq_true, Nat.reduceMod, Nat.reduceDiv, Nat.reduceEqDiff, Nat.reduceLT, Nat.reduceLeDiff, Nat.reduceAdd, Nat.reduceSub, reduceIte, Nat.lt_irrefl, Nat.zero_ne_one, Nat.one_ne_zero, Nat.zero_add, List.nil_append, List.cons_append, Option.toList_some, Option.toList_none, forall_const, false_implies, true_implies, false_or, or_false, true_or, or_true, i_le, i_lt, i_eq, i_eq0, i_lt0, i_0le, i_0lt, i_le0, i_in1, i_cl, nI_add, pk_mul, pk_sub, i_div, i_rem, i_sh1, i_bit, i_or, i_and, i_andn, nt_le, nf_le, nt_lt, nf_lt, nt_eq, nf_eq, not_true_eq_false, and_self, and_false, false_and, eq_self, Bool.toNat_true, Bool.toNat_false, i_bool, i_bool1, Bool.false_eq_true, Bool.true_eq_false, reduceCtorEq, i_neg1, i_neg2, i_neg3, i_neg4, i_neg5, i_neg6, i_neg7, i_neg8, i_neg9, i_nega, i_negb, i_negc, i_max2, i_min2, wi_nil]
        repeat (
          first
          | refine s_X9_isTold_0 ?_
          | refine s_X9_isTold_50 ?_
          | refine s_X9_isTold_53 ?_
          | refine s_X9_isTold_63 ?_
          | refine s_X9_isTold_70 ?_
          | refine s_X9_isTold_71 ?_
          | refine s_X9_isTold_79 ?_
          simp (disch := omega) only [B_X9_isTold_0, wi_iconst, wi_istore, B_X9_isTold_6, wi_iload, wi_aload_n, wi_getfield, fldv_8_5, fds_8_5, cnt_8, wi_iaload, wi_icmp_ge, wi_if_eq, wi_iload_n, fldv_8_13, fds_8_13, fldv_8_20, fds_8_20, wi_bipush, wi_iadd, wi_invokevirtual, cnt_31, aTy_31, aLn_31, arr_31, cnt_38, aTy_38, aLn_38, arr_38, cnt_40, aTy_40, aLn_40, arr_40, B_X9_isTold_50, wi_invokestatic, B_X9_isTold_53, B_X9_isTold_63, wi_icmp_ne, wi_goto, B_X9_isTold_70, B_X9_isTold_71, wi_iinc, B_X9_isTold_79, wi_ireturn, no0, no1, nz1, nz2, nz3, nz4, nz5, nz7, nz8, Classical.not_not, bz0, bz1, wi_nil, ld_0, ld_s, isIv_I, isLv_L, isRv_R, true_and, and_true, lset_0, lset_1, lset_s, avw_I, avw_L, avw_R, clr_cons, clr_nil, kst_0, kst_1, kstL_0, kstL_1, addk_I, pA_0, pA_s, pD_0, pD_s, wid_nil, wid_cons, rcv_c, putv_I, putv_L, List.length_cons, List.length_nil, List.set_cons_zero, List.set_cons_succ, not_false_eq_true, Nat.reduceMod, Nat.reduceDiv, Nat.reduceEqDiff, Nat.reduceLT, Nat.reduceLeDiff, Nat.reduceAdd, Nat.reduceSub, reduceIte, Nat.lt_irrefl, Nat.zero_ne_one, Nat.one_ne_zero, Nat.zero_add, List.nil_append, List.cons_append, Option.toList_some, Option.toList_none, forall_const, false_implies, true_implies, false_or, or_false, true_or, or_true, i_le, i_lt, i_eq, i_eq0, i_lt0, i_0le, i_0lt, i_le0, i_in1, i_cl, nI_add, pk_mul, pk_sub, i_div, i_rem, i_sh1, i_bit, i_or, i_and, i_andn, nt_le, nf_le, nt_lt, nf_lt, nt_eq, nf_eq, not_true_eq_false, and_self, and_false, false_and, eq_self, Bool.toNat_true, Bool.toNat_false, i_bool, i_bool1, Bool.false_eq_true, Bool.true_eq_false, reduceCtorEq, i_neg1, i_neg2, i_neg3, i_neg4, i_neg5, i_neg6, i_neg7, i_neg8, i_neg9, i_nega, i_negb, i_negc, i_max2, i_min2])
        exact hnx
theorem c_isTold {i r h kd e hb : Nat} (hm : YrM S 40 Y) (ho : YOk 40 Y) (ht : Tb S 31 32 6 40 rs rc) (hi : i < Y 6 0) (hr : r < 6) (hz : rs r = 2 * h + 1) (hh : h ≤ 20) (hp : prB rc r h = true) (hkd : kd < 6) (he : e ≤ 9) (hhb : hb ≤ 9) (q : P (some (aI (nI (agS rc r (Y 3 i) (Y 4 i) kd e hb h).toNat))) S) : wpM (d + 4) mX9_isTold [aR 8 0, aI (nI i), aI (nI kd), aI (nI e), aI (nI hb), aI (nI r)] S P := by
  refine x_entry (ls2 := [aR 8 0, aI (nI i), aI (nI kd), aI (nI e), aI (nI hb), aI (nI r), aU, aU]) (Nat.le_of_ble_eq_true rfl) pl_9 rfl (Nat.le_of_ble_eq_true rfl) ?_
  try simp (disch := omega) only [no0, no1, nz1, nz2, nz3, nz4, nz5, nz7, nz8, Classical.not_not, bz0, bz1, wi_nil, ld_0, ld_s, isIv_I, isLv_L, isRv_R, true_and, and_true, lset_0, lset_1, lset_s, avw_I, avw_L, avw_R, clr_cons, clr_nil, kst_0, kst_1, kstL_0, kstL_1, addk_I, pA_0, pA_s, pD_0, pD_s, wid_nil, wid_cons, rcv_c, putv_I, putv_L, List.length_cons, List.length_nil, List.set_cons_zero, List.set_cons_succ, not_false_eq_true, Nat.reduceMod, Nat.reduceDiv, Nat.reduceEqDiff, Nat.reduceLT, Nat.reduceLeDiff, Nat.reduceAdd, Nat.reduceSub, reduceIte, Nat.lt_irrefl, Nat.zero_ne_one, Nat.one_ne_zero, Nat.zero_add, List.nil_append, List.cons_append, Option.toList_some, Option.toList_none, forall_const, false_implies, true_implies, false_or, or_false, true_or, or_true, i_le, i_lt, i_eq, i_eq0, i_lt0, i_0le, i_0lt, i_le0, i_in1, i_cl, nI_add, pk_mul, pk_sub, i_div, i_rem, i_sh1, i_bit, i_or, i_and, i_andn, nt_le, nf_le, nt_lt, nf_lt, nt_eq, nf_eq, not_true_eq_false, and_self, and_false, false_and, eq_self, Bool.toNat_true, Bool.toNat_false, i_bool, i_bool1, Bool.false_eq_true, Bool.true_eq_false, reduceCtorEq, i_neg1, i_neg2, i_neg3, i_neg4, i_neg5, i_neg6, i_neg7, i_neg8, i_neg9, i_nega, i_negb, i_negc, i_max2, i_min2, wi_nil]
  repeat (
    first
    | refine s_X9_isTold_0 ?_
    | refine s_X9_isTold_50 ?_
    | refine s_X9_isTold_53 ?_
    | refine s_X9_isTold_63 ?_
    | refine s_X9_isTold_70 ?_
    | refine s_X9_isTold_71 ?_
    | refine s_X9_isTold_79 ?_
    simp (disch := omega) only [B_X9_isTold_0, wi_iconst, wi_istore, B_X9_isTold_6, wi_iload, wi_aload_n, wi_getfield, fldv_8_5, fds_8_5, cnt_8, wi_iaload, wi_icmp_ge, wi_if_eq, wi_iload_n, fldv_8_13, fds_8_13, fldv_8_20, fds_8_20, wi_bipush, wi_iadd, wi_invokevirtual, cnt_31, aTy_31, aLn_31, arr_31, cnt_38, aTy_38, aLn_38, arr_38, cnt_40, aTy_40, aLn_40, arr_40, B_X9_isTold_50, wi_invokestatic, B_X9_isTold_53, B_X9_isTold_63, wi_icmp_ne, wi_goto, B_X9_isTold_70, B_X9_isTold_71, wi_iinc, B_X9_isTold_79, wi_ireturn, no0, no1, nz1, nz2, nz3, nz4, nz5, nz7, nz8, Classical.not_not, bz0, bz1, wi_nil, ld_0, ld_s, isIv_I, isLv_L, isRv_R, true_and, and_true, lset_0, lset_1, lset_s, avw_I, avw_L, avw_R, clr_cons, clr_nil, kst_0, kst_1, kstL_0, kstL_1, addk_I, pA_0, pA_s, pD_0, pD_s, wid_nil, wid_cons, rcv_c, putv_I, putv_L, List.length_cons, List.length_nil, List.set_cons_zero, List.set_cons_succ, not_false_eq_true, Nat.reduceMod, Nat.reduceDiv, Nat.reduceEqDiff, Nat.reduceLT, Nat.reduceLeDiff, Nat.reduceAdd, Nat.reduceSub, reduceIte, Nat.lt_irrefl, Nat.zero_ne_one, Nat.one_ne_zero, Nat.zero_add, List.nil_append, List.cons_append, Option.toList_some, Option.toList_none, forall_const, false_implies, true_implies, false_or, or_false, true_or, or_true, i_le, i_lt, i_eq, i_eq0, i_lt0, i_0le, i_0lt, i_le0, i_in1, i_cl, nI_add, pk_mul, pk_sub, i_div, i_rem, i_sh1, i_bit, i_or, i_and, i_andn, nt_le, nf_le, nt_lt, nf_lt, nt_eq, nf_eq, not_true_eq_false, and_self, and_false, false_and, eq_self, Bool.toNat_true, Bool.toNat_false, i_bool, i_bool1, Bool.false_eq_true, Bool.true_eq_false, reduceCtorEq, i_neg1, i_neg2, i_neg3, i_neg4, i_neg5, i_neg6, i_neg7, i_neg8, i_neg9, i_nega, i_negb, i_negc, i_max2, i_min2])
  exact l_isTold hm ho ht hi hr hz hh hp hkd he hhb q h 0 (by omega)
end
