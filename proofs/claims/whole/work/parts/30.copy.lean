-- PART 30: copy
section
variable {d : Nat} {S : MS} {P : Option AV → MS → Prop} {rs : Nat → Nat} {rc : Nat → Nat → Int32}
/-- n places from i on are there, among z -/
def hpB (i n : Int32) (z : Nat) : Bool := decide (0 ≤ i.toInt ∧ i.toInt + n.toInt ≤ (z : Int))
theorem c_RhasPart {r z : Nat} {i n : Int32} (ht : Tb S 15 16 6 40 rs rc) (hr : r < 6) (hz : rs r = z + 1) (hz4 : z ≤ 40) (hn : 0 ≤ n.toInt) (q : P (some (aI (nI (hpB i n z).toNat))) S) : wpM (d + 1) mX4_hasPart [aR 3 0, aI (nI r), aI i, aI n] S P := by
  have hs := (ht r hr).1
  rw [hz, sz_s] at hs
  have no : hpB i n z = false → wpX d mX4_hasPart 30 [aU, aU, aU, aU] [] S P := by
    intro e
    rw [e] at q
    try simp (disch := omega) only [no0, no1, nz1, nz2, nz3, nz4, nz5, nz7, nz8, Classical.not_not, bz0, bz1, wi_nil, ld_0, ld_s, isIv_I, isLv_L, isRv_R, true_and, and_true, lset_0, lset_1, lset_s, avw_I, avw_L, avw_R, clr_cons, clr_nil, kst_0, kst_1, kstL_0, kstL_1, addk_I, pA_0, pA_s, pD_0, pD_s, wid_nil, wid_cons, rcv_c, putv_I, putv_L, List.length_cons, List.length_nil, List.set_cons_zero, List.set_cons_succ, not_false_eq_true, Nat.reduceMod, Nat.reduceDiv, Nat.reduceEqDiff, Nat.reduceLT, Nat.reduceLeDiff, Nat.reduceAdd, Nat.reduceSub, reduceIte, Nat.lt_irrefl, Nat.zero_ne_one, Nat.one_ne_zero, Nat.zero_add, List.nil_append, List.cons_append, Option.toList_some, Option.toList_none, forall_const, false_implies, true_implies, false_or, or_false, true_or, or_true, i_le, i_lt, i_eq, i_eq0, i_lt0, i_0le, i_0lt, i_le0, i_in1, i_cl, nI_add, pk_mul, pk_sub, i_div, i_rem, i_sh1, i_bit, i_or, i_and, i_andn, nt_le, nf_le, nt_lt, nf_lt, nt_eq, nf_eq, not_true_eq_false, and_self, and_false, false_and, eq_self, Bool.toNat_true, Bool.toNat_false, i_bool, i_bool1, Bool.false_eq_true, Bool.true_eq_false, reduceCtorEq, i_neg1, i_neg2, i_neg3, i_neg4, i_neg5, i_neg6, i_neg7, i_neg8, i_neg9, i_nega, i_negb, i_negc, i_max2, i_min2, wi_nil]
    repeat (
      first
      | refine s_X4_hasPart_0 ?_
      | refine s_X4_hasPart_30 ?_
      | refine s_X4_hasPart_31 ?_
      simp (disch := omega) only [B_X4_hasPart_0, wi_iload_n, wi_if_lt, wi_aload_n, wi_getfield, fldv_3_0, fds_3_0, cnt_3, wi_iaload, wi_icmp_gt, wi_isub, wi_iconst, wi_goto, cnt_15, aTy_15, aLn_15, arr_15, B_X4_hasPart_30, B_X4_hasPart_31, wi_ireturn, no0, no1, nz1, nz2, nz3, nz4, nz5, nz7, nz8, Classical.not_not, bz0, bz1, wi_nil, ld_0, ld_s, isIv_I, isLv_L, isRv_R, true_and, and_true, lset_0, lset_1, lset_s, avw_I, avw_L, avw_R, clr_cons, clr_nil, kst_0, kst_1, kstL_0, kstL_1, addk_I, pA_0, pA_s, pD_0, pD_s, wid_nil, wid_cons, rcv_c, putv_I, putv_L, List.length_cons, List.length_nil, List.set_cons_zero, List.set_cons_succ, not_false_eq_true, Nat.reduceMod, Nat.reduceDiv, Nat.reduceEqDiff, Nat.reduceLT, Nat.reduceLeDiff, Nat.reduceAdd, Nat.reduceSub, reduceIte, Nat.lt_irrefl, Nat.zero_ne_one, Nat.one_ne_zero, Nat.zero_add, List.nil_append, List.cons_append, Option.toList_some, Option.toList_none, forall_const, false_implies, true_implies, false_or, or_false, true_or, or_true, i_le, i_lt, i_eq, i_eq0, i_lt0, i_0le, i_0lt, i_le0, i_in1, i_cl, nI_add, pk_mul, pk_sub, i_div, i_rem, i_sh1, i_bit, i_or, i_and, i_andn, nt_le, nf_le, nt_lt, nf_lt, nt_eq, nf_eq, not_true_eq_false, and_self, and_false, false_and, eq_self, Bool.toNat_true, Bool.toNat_false, i_bool, i_bool1, Bool.false_eq_true, Bool.true_eq_false, reduceCtorEq, i_neg1, i_neg2, i_neg3, i_neg4, i_neg5, i_neg6, i_neg7, i_neg8, i_neg9, i_nega, i_negb, i_negc, i_max2, i_min2])
    exact q
  refine x_entry (ls2 := [aR 3 0, aI (nI r), aI i, aI n]) (Nat.le_of_ble_eq_true rfl) pl_4 rfl (Nat.le_of_ble_eq_true rfl) ?_
  refine s_X4_hasPart_0 ?_
  simp (disch := omega) only [B_X4_hasPart_0, wi_iload_n, wi_if_lt, wi_aload_n, wi_getfield, fldv_3_0, fds_3_0, cnt_3, wi_iaload, wi_icmp_gt, wi_isub, wi_iconst, wi_goto, cnt_15, aTy_15, aLn_15, arr_15, no0, no1, nz1, nz2, nz3, nz4, nz5, nz7, nz8, Classical.not_not, bz0, bz1, wi_nil, ld_0, ld_s, isIv_I, isLv_L, isRv_R, true_and, and_true, lset_0, lset_1, lset_s, avw_I, avw_L, avw_R, clr_cons, clr_nil, kst_0, kst_1, kstL_0, kstL_1, addk_I, pA_0, pA_s, pD_0, pD_s, wid_nil, wid_cons, rcv_c, putv_I, putv_L, List.length_cons, List.length_nil, List.set_cons_zero, List.set_cons_succ, not_false_eq_true, Nat.reduceMod, Nat.reduceDiv, Nat.reduceEqDiff, Nat.reduceLT, Nat.reduceLeDiff, Nat.reduceAdd, Nat.reduceSub, reduceIte, Nat.lt_irrefl, Nat.zero_ne_one, Nat.one_ne_zero, Nat.zero_add, List.nil_append, List.cons_append, Option.toList_some, Option.toList_none, forall_const, false_implies, true_implies, false_or, or_false, true_or, or_true, i_le, i_lt, i_eq, i_eq0, i_lt0, i_0le, i_0lt, i_le0, i_in1, i_cl, nI_add, pk_mul, pk_sub, i_div, i_rem, i_sh1, i_bit, i_or, i_and, i_andn, nt_le, nf_le, nt_lt, nf_lt, nt_eq, nf_eq, not_true_eq_false, and_self, and_false, false_and, eq_self, Bool.toNat_true, Bool.toNat_false, i_bool, i_bool1, Bool.false_eq_true, Bool.true_eq_false, reduceCtorEq, i_neg1, i_neg2, i_neg3, i_neg4, i_neg5, i_neg6, i_neg7, i_neg8, i_neg9, i_nega, i_negb, i_negc, i_max2, i_min2, hs]
  have hpi := fb_rng i
  have hpn := fb_rng n
  have hzi : (nI z).toInt = (z : Int) := nI_toInt (by omega)
  refine ⟨fun h1 => no ?_, fun h1 => ⟨fun h2 => no ?_, fun h2 => ⟨fun h3 => no ?_, fun h3 => ?_⟩⟩⟩
  · rw [Int32.lt_iff_toInt_lt, Int32.toInt_zero] at h1
    exact decide_eq_false (by omega)
  · rw [Int32.lt_iff_toInt_lt, hzi] at h2
    exact decide_eq_false (by omega)
  · rw [Int32.lt_iff_toInt_lt, Int32.toInt_zero] at h1
    rw [Int32.lt_iff_toInt_lt, hzi] at h2
    rw [Int32.lt_iff_toInt_lt, fb_subI (by rw [hzi]; omega) (by rw [hzi]; omega), hzi] at h3
    exact decide_eq_false (by omega)
  · rw [Int32.lt_iff_toInt_lt, Int32.toInt_zero] at h1
    rw [Int32.lt_iff_toInt_lt, hzi] at h2
    rw [Int32.lt_iff_toInt_lt, fb_subI (by rw [hzi]; omega) (by rw [hzi]; omega), hzi] at h3
    have e : hpB i n z = true := decide_eq_true (by omega)
    rw [e] at q
    try simp (disch := omega) only [no0, no1, nz1, nz2, nz3, nz4, nz5, nz7, nz8, Classical.not_not, bz0, bz1, wi_nil, ld_0, ld_s, isIv_I, isLv_L, isRv_R, true_and, and_true, lset_0, lset_1, lset_s, avw_I, avw_L, avw_R, clr_cons, clr_nil, kst_0, kst_1, kstL_0, kstL_1, addk_I, pA_0, pA_s, pD_0, pD_s, wid_nil, wid_cons, rcv_c, putv_I, putv_L, List.length_cons, List.length_nil, List.set_cons_zero, List.set_cons_succ, not_false_eq_true, Nat.reduceMod, Nat.reduceDiv, Nat.reduceEqDiff, Nat.reduceLT, Nat.reduceLeDiff, Nat.reduceAdd, Nat.reduceSub, reduceIte, Nat.lt_irrefl, Nat.zero_ne_one, Nat.one_ne_zero, Nat.zero_add, List.nil_append, List.cons_append, Option.toList_some, Option.toList_none, forall_const, false_implies, true_implies, false_or, or_false, true_or, or_true, i_le, i_lt, i_eq, i_eq0, i_lt0, i_0le, i_0lt, i_le0, i_in1, i_cl, nI_add, pk_mul, pk_sub, i_div, i_rem, i_sh1, i_bit, i_or, i_and, i_andn, nt_le, nf_le, nt_lt, nf_lt, nt_eq, nf_eq, not_true_eq_false, and_self, and_false, false_and, eq_self, Bool.toNat_true, Bool.toNat_false, i_bool, i_bool1, Bool.false_eq_true, Bool.true_eq_false, reduceCtorEq, i_neg1, i_neg2, i_neg3, i_neg4, i_neg5, i_neg6, i_neg7, i_neg8, i_neg9, i_nega, i_negb, i_negc, i_max2, i_min2, wi_nil]
    repeat (
      first
      | refine s_X4_hasPart_0 ?_
      | refine s_X4_hasPart_30 ?_
      | refine s_X4_hasPart_31 ?_
      simp (disch := omega) only [B_X4_hasPart_0, wi_iload_n, wi_if_lt, wi_aload_n, wi_getfield, fldv_3_0, fds_3_0, cnt_3, wi_iaload, wi_icmp_gt, wi_isub, wi_iconst, wi_goto, cnt_15, aTy_15, aLn_15, arr_15, B_X4_hasPart_30, B_X4_hasPart_31, wi_ireturn, no0, no1, nz1, nz2, nz3, nz4, nz5, nz7, nz8, Classical.not_not, bz0, bz1, wi_nil, ld_0, ld_s, isIv_I, isLv_L, isRv_R, true_and, and_true, lset_0, lset_1, lset_s, avw_I, avw_L, avw_R, clr_cons, clr_nil, kst_0, kst_1, kstL_0, kstL_1, addk_I, pA_0, pA_s, pD_0, pD_s, wid_nil, wid_cons, rcv_c, putv_I, putv_L, List.length_cons, List.length_nil, List.set_cons_zero, List.set_cons_succ, not_false_eq_true, Nat.reduceMod, Nat.reduceDiv, Nat.reduceEqDiff, Nat.reduceLT, Nat.reduceLeDiff, Nat.reduceAdd, Nat.reduceSub, reduceIte, Nat.lt_irrefl, Nat.zero_ne_one, Nat.one_ne_zero, Nat.zero_add, List.nil_append, List.cons_append, Option.toList_some, Option.toList_none, forall_const, false_implies, true_implies, false_or, or_false, true_or, or_true, i_le, i_lt, i_eq, i_eq0, i_lt0, i_0le, i_0lt, i_le0, i_in1, i_cl, nI_add, pk_mul, pk_sub, i_div, i_rem, i_sh1, i_bit, i_or, i_and, i_andn, nt_le, nf_le, nt_lt, nf_lt, nt_eq, nf_eq, not_true_eq_false, and_self, and_false, false_and, eq_self, Bool.toNat_true, Bool.toNat_false, i_bool, i_bool1, Bool.false_eq_true, Bool.true_eq_false, reduceCtorEq, i_neg1, i_neg2, i_neg3, i_neg4, i_neg5, i_neg6, i_neg7, i_neg8, i_neg9, i_nega, i_negb, i_negc, i_max2, i_min2])
    exact q
theorem tb_cpy {S2 : MS} {kz kc N w r i t j n : Nat} {g : Nat → Int32} (h : Tb S kz kc N w rs rc) (ht : t < N) (hj : j + n + 1 ≤ rs t) (hg : ∀ p, p < n → g p = rc r (i + p)) (hz : gA S2 kz 0 = gA S kz 0) (hc : gA S2 kc 0 = fb_put (gA S kc 0) g (w * t + j) n) : Tb S2 kz kc N w rs (fun a p => if a = t ∧ j ≤ p ∧ p < j + n then rc r (i + (p - j)) else rc a p) := by
  intro a ha
  have h0 := h a ha
  have ht0 := (h t ht).2.1
  rw [hz, hc]
  refine ⟨h0.1, h0.2.1, fun p hp => ?_⟩
  dsimp only
  by_cases e : a = t ∧ j ≤ p ∧ p < j + n
  · rw [if_pos e]
    obtain ⟨rfl, e2, e3⟩ := e
    rw [fb_put_in (by omega) (by omega), hg _ (by omega)]
    congr 1
    omega
  · rw [if_neg e]
    by_cases e2 : a = t
    · subst e2
      rw [fb_put_out (by omega)]
      exact h0.2.2 p hp
    · have := far (w := w) e2 (show p < w by omega)
      rw [fb_put_out (by omega)]
      exact h0.2.2 p hp
theorem cpy_put {f : Nat → Int32} {a b n : Nat} : va_cpy f f a b n = fb_put f (fun p => f (a + p)) b n := by
  funext k
  by_cases h : b ≤ k ∧ k < b + n
  · rw [pk_cpy_in h.1 h.2, fb_put_in h.1 h.2]
  · rw [pk_cpy_out (by omega), fb_put_out (by omega)]
theorem l_mcopy1 {r i t j n z : Nat} (hr : r < 6) (hz : rs r = z + 1) (hz4 : z ≤ 40) (hi : i + n ≤ z) {S0 : MS} (hT : Tb S0 31 32 6 40 rs rc) (q : ∀ S2, (∀ p, p < n → gA S2 33 0 p = rc r (i + p)) → FA 33 S0 S2 → wpX (d + 8) mX9_copy 133 [aR 8 0, aU, aU, aI (nI t), aI (nI j), aI (nI n), aU] [] S2 P) : ∀ (m k : Nat) (S : MS), k + m = n → (∀ p, p < k → gA S 33 0 p = rc r (i + p)) → FA 33 S0 S → wpX (d + 8) mX9_copy 104 [aR 8 0, aI (nI r), aI (nI i), aI (nI t), aI (nI j), aI (nI n), aI (nI k)] [] S P := by
  intro m
  induction m with
  | zero =>
    intro k S hk h hf
    have e : k = n := by omega
    subst e
    refine s_X9_copy_104 ?_
    simp (disch := omega) only [B_X9_copy_104, wi_iload, wi_icmp_ge, wi_aload_n, wi_getfield, fldv_8_7, fds_8_7, cnt_8, wi_iload_n, wi_iadd, wi_invokevirtual, no0, no1, nz1, nz2, nz3, nz4, nz5, nz7, nz8, Classical.not_not, bz0, bz1, wi_nil, ld_0, ld_s, isIv_I, isLv_L, isRv_R, true_and, and_true, lset_0, lset_1, lset_s, avw_I, avw_L, avw_R, clr_cons, clr_nil, kst_0, kst_1, kstL_0, kstL_1, addk_I, pA_0, pA_s, pD_0, pD_s, wid_nil, wid_cons, rcv_c, putv_I, putv_L, List.length_cons, List.length_nil, List.set_cons_zero, List.set_cons_succ, not_false_eq_true, Nat.reduceMod, Nat.reduceDiv, Nat.reduceEqDiff, Nat.reduceLT, Nat.reduceLeDiff, Nat.reduceAdd, Nat.reduceSub, reduceIte, Nat.lt_irrefl, Nat.zero_ne_one, Nat.one_ne_zero, Nat.zero_add, List.nil_append, List.cons_append, Option.toList_some, Option.toList_none, forall_const, false_implies, true_implies, false_or, or_false, true_or, or_true, i_le, i_lt, i_eq, i_eq0, i_lt0, i_0le, i_0lt, i_le0, i_in1, i_cl, nI_add, pk_mul, pk_sub, i_div, i_rem, i_sh1, i_bit, i_or, i_and, i_andn, nt_le, nf_le, nt_lt, nf_lt, nt_eq, nf_eq, not_true_eq_false, and_self, and_false, false_and, eq_self, Bool.toNat_true, Bool.toNat_false, i_bool, i_bool1, Bool.false_eq_true, Bool.true_eq_false, reduceCtorEq, i_neg1, i_neg2, i_neg3, i_neg4, i_neg5, i_neg6, i_neg7, i_neg8, i_neg9, i_nega, i_negb, i_negc, i_max2, i_min2]
    exact q S h hf
  | succ m ih =>
    intro k S hk h hf
    have hT2 : Tb S 31 32 6 40 rs rc := fun a ha => by rw [hf.2.2 31 0 (by decide), hf.2.2 32 0 (by decide)]; exact hT a ha
    refine s_X9_copy_104 ?_
    simp (disch := omega) only [B_X9_copy_104, wi_iload, wi_icmp_ge, wi_aload_n, wi_getfield, fldv_8_7, fds_8_7, cnt_8, wi_iload_n, wi_iadd, wi_invokevirtual, no0, no1, nz1, nz2, nz3, nz4, nz5, nz7, nz8, Classical.not_not, bz0, bz1, wi_nil, ld_0, ld_s, isIv_I, isLv_L, isRv_R, true_and, and_true, lset_0, lset_1, lset_s, avw_I, avw_L, avw_R, clr_cons, clr_nil, kst_0, kst_1, kstL_0, kstL_1, addk_I, pA_0, pA_s, pD_0, pD_s, wid_nil, wid_cons, rcv_c, putv_I, putv_L, List.length_cons, List.length_nil, List.set_cons_zero, List.set_cons_succ, not_false_eq_true, Nat.reduceMod, Nat.reduceDiv, Nat.reduceEqDiff, Nat.reduceLT, Nat.reduceLeDiff, Nat.reduceAdd, Nat.reduceSub, reduceIte, Nat.lt_irrefl, Nat.zero_ne_one, Nat.one_ne_zero, Nat.zero_add, List.nil_append, List.cons_append, Option.toList_some, Option.toList_none, forall_const, false_implies, true_implies, false_or, or_false, true_or, or_true, i_le, i_lt, i_eq, i_eq0, i_lt0, i_0le, i_0lt, i_le0, i_in1, i_cl, nI_add, pk_mul, pk_sub, i_div, i_rem, i_sh1, i_bit, i_or, i_and, i_andn, nt_le, nf_le, nt_lt, nf_lt, nt_eq, nf_eq, not_true_eq_false, and_self, and_false, false_and, eq_self, Bool.toNat_true, Bool.toNat_false, i_bool, i_bool1, Bool.false_eq_true, Bool.true_eq_false, reduceCtorEq, i_neg1, i_neg2, i_neg3, i_neg4, i_neg5, i_neg6, i_neg7, i_neg8, i_neg9, i_nega, i_negb, i_negc, i_max2, i_min2]
    refine c_rowAt hT2 hr (by omega) ?_
    try simp (disch := omega) only [no0, no1, nz1, nz2, nz3, nz4, nz5, nz7, nz8, Classical.not_not, bz0, bz1, wi_nil, ld_0, ld_s, isIv_I, isLv_L, isRv_R, true_and, and_true, lset_0, lset_1, lset_s, avw_I, avw_L, avw_R, clr_cons, clr_nil, kst_0, kst_1, kstL_0, kstL_1, addk_I, pA_0, pA_s, pD_0, pD_s, wid_nil, wid_cons, rcv_c, putv_I, putv_L, List.length_cons, List.length_nil, List.set_cons_zero, List.set_cons_succ, not_false_eq_true, Nat.reduceMod, Nat.reduceDiv, Nat.reduceEqDiff, Nat.reduceLT, Nat.reduceLeDiff, Nat.reduceAdd, Nat.reduceSub, reduceIte, Nat.lt_irrefl, Nat.zero_ne_one, Nat.one_ne_zero, Nat.zero_add, List.nil_append, List.cons_append, Option.toList_some, Option.toList_none, forall_const, false_implies, true_implies, false_or, or_false, true_or, or_true, i_le, i_lt, i_eq, i_eq0, i_lt0, i_0le, i_0lt, i_le0, i_in1, i_cl, nI_add, pk_mul, pk_sub, i_div, i_rem, i_sh1, i_bit, i_or, i_and, i_andn, nt_le, nf_le, nt_lt, nf_lt, nt_eq, nf_eq, not_true_eq_false, and_self, and_false, false_and, eq_self, Bool.toNat_true, Bool.toNat_false, i_bool, i_bool1, Bool.false_eq_true, Bool.true_eq_false, reduceCtorEq, i_neg1, i_neg2, i_neg3, i_neg4, i_neg5, i_neg6, i_neg7, i_neg8, i_neg9, i_nega, i_negb, i_negc, i_max2, i_min2, wi_nil]
    repeat (
      first
      | refine s_X9_copy_0 ?_
      | refine s_X9_copy_4 ?_
      | refine s_X9_copy_11 ?_
      | refine s_X9_copy_14 ?_
      | refine s_X9_copy_16 ?_
      | refine s_X9_copy_26 ?_
      | refine s_X9_copy_27 ?_
      | refine s_X9_copy_45 ?_
      | refine s_X9_copy_50 ?_
      | refine s_X9_copy_51 ?_
      | refine s_X9_copy_95 ?_
      | refine s_X9_copy_100 ?_
      | refine s_X9_copy_101 ?_
      | refine s_X9_copy_126 ?_
      | refine s_X9_copy_133 ?_
      | refine s_X9_copy_171 ?_
      simp (disch := omega) only [B_X9_copy_0, wi_iload_n, wi_invokestatic, B_X9_copy_4, wi_if_eq, B_X9_copy_11, wi_if_ne, B_X9_copy_14, wi_iconst, wi_ireturn, B_X9_copy_16, wi_iload, wi_if_ge, wi_aload_n, wi_invokevirtual, cnt_8, B_X9_copy_26, B_X9_copy_27, wi_getfield, fldv_8_5, fds_8_5, wi_iaload, wi_if_lt, cnt_31, aTy_31, aLn_31, arr_31, cnt_32, aTy_32, aLn_32, arr_32, cnt_33, aTy_33, aLn_33, arr_33, B_X9_copy_45, B_X9_copy_50, B_X9_copy_51, wi_i2l, wi_ladd, wi_lcmp, wi_if_gt, wi_if_le, B_X9_copy_95, B_X9_copy_100, B_X9_copy_101, wi_istore, B_X9_copy_104, wi_icmp_ge, fldv_8_7, fds_8_7, wi_iadd, B_X9_copy_126, wi_iastore, wi_iinc, wi_goto, B_X9_copy_133, B_X9_copy_136, fldv_8_6, fds_8_6, wi_bipush, wi_imul, B_X9_copy_171, no0, no1, nz1, nz2, nz3, nz4, nz5, nz7, nz8, Classical.not_not, bz0, bz1, wi_nil, ld_0, ld_s, isIv_I, isLv_L, isRv_R, true_and, and_true, lset_0, lset_1, lset_s, avw_I, avw_L, avw_R, clr_cons, clr_nil, kst_0, kst_1, kstL_0, kstL_1, addk_I, pA_0, pA_s, pD_0, pD_s, wid_nil, wid_cons, rcv_c, putv_I, putv_L, List.length_cons, List.length_nil, List.set_cons_zero, List.set_cons_succ, not_false_eq_true, Nat.reduceMod, Nat.reduceDiv, Nat.reduceEqDiff, Nat.reduceLT, Nat.reduceLeDiff, Nat.reduceAdd, Nat.reduceSub, reduceIte, Nat.lt_irrefl, Nat.zero_ne_one, Nat.one_ne_zero, Nat.zero_add, List.nil_append, List.cons_append, Option.toList_some, Option.toList_none, forall_const, false_implies, true_implies, false_or, or_false, true_or, or_true, i_le, i_lt, i_eq, i_eq0, i_lt0, i_0le, i_0lt, i_le0, i_in1, i_cl, nI_add, pk_mul, pk_sub, i_div, i_rem, i_sh1, i_bit, i_or, i_and, i_andn, nt_le, nf_le, nt_lt, nf_lt, nt_eq, nf_eq, not_true_eq_false, and_self, and_false, false_and, eq_self, Bool.toNat_true, Bool.toNat_false, i_bool, i_bool1, Bool.false_eq_true, Bool.true_eq_false, reduceCtorEq, i_neg1, i_neg2, i_neg3, i_neg4, i_neg5, i_neg6, i_neg7, i_neg8, i_neg9, i_nega, i_negb, i_negc, i_max2, i_min2])
    refine ih (k + 1) _ (by omega) (fun p hp => ?_) (hf.trans fa_sA)
    rw [gA_same]
    by_cases e : p = k
    · subst e; rw [pk_us]
    · rw [pk_un e]; exact h p (by omega)
theorem l_mcopy2 {t j n : Nat} {g : Nat → Int32} (ht : t < 6) (hj : j + n ≤ 40) : ∀ (m k : Nat) (S : MS), k + m = n → (∀ p, p < n → gA S 33 0 p = g p) → P (some (aI (nI 1))) (sA S 32 0 (fb_put (gA S 32 0) (fun p => g (p + k)) (40 * t + j + k) (n - k))) → wpX (d + 8) mX9_copy 136 [aR 8 0, aU, aU, aI (nI t), aI (nI j), aI (nI n), aI (nI k)] [] S P := by
  intro m
  induction m with
  | zero =>
    intro k S hk h q
    have e : k = n := by omega
    subst e
    rw [Nat.sub_self, fb_put_0, sA_self] at q
    try simp (disch := omega) only [no0, no1, nz1, nz2, nz3, nz4, nz5, nz7, nz8, Classical.not_not, bz0, bz1, wi_nil, ld_0, ld_s, isIv_I, isLv_L, isRv_R, true_and, and_true, lset_0, lset_1, lset_s, avw_I, avw_L, avw_R, clr_cons, clr_nil, kst_0, kst_1, kstL_0, kstL_1, addk_I, pA_0, pA_s, pD_0, pD_s, wid_nil, wid_cons, rcv_c, putv_I, putv_L, List.length_cons, List.length_nil, List.set_cons_zero, List.set_cons_succ, not_false_eq_true, Nat.reduceMod, Nat.reduceDiv, Nat.reduceEqDiff, Nat.reduceLT, Nat.reduceLeDiff, Nat.reduceAdd, Nat.reduceSub, reduceIte, Nat.lt_irrefl, Nat.zero_ne_one, Nat.one_ne_zero, Nat.zero_add, List.nil_append, List.cons_append, Option.toList_some, Option.toList_none, forall_const, false_implies, true_implies, false_or, or_false, true_or, or_true, i_le, i_lt, i_eq, i_eq0, i_lt0, i_0le, i_0lt, i_le0, i_in1, i_cl, nI_add, pk_mul, pk_sub, i_div, i_rem, i_sh1, i_bit, i_or, i_and, i_andn, nt_le, nf_le, nt_lt, nf_lt, nt_eq, nf_eq, not_true_eq_false, and_self, and_false, false_and, eq_self, Bool.toNat_true, Bool.toNat_false, i_bool, i_bool1, Bool.false_eq_true, Bool.true_eq_false, reduceCtorEq, i_neg1, i_neg2, i_neg3, i_neg4, i_neg5, i_neg6, i_neg7, i_neg8, i_neg9, i_nega, i_negb, i_negc, i_max2, i_min2, wi_nil]
    repeat (
      first
      | refine s_X9_copy_0 ?_
      | refine s_X9_copy_4 ?_
      | refine s_X9_copy_11 ?_
      | refine s_X9_copy_14 ?_
      | refine s_X9_copy_16 ?_
      | refine s_X9_copy_26 ?_
      | refine s_X9_copy_27 ?_
      | refine s_X9_copy_45 ?_
      | refine s_X9_copy_50 ?_
      | refine s_X9_copy_51 ?_
      | refine s_X9_copy_95 ?_
      | refine s_X9_copy_100 ?_
      | refine s_X9_copy_101 ?_
      | refine s_X9_copy_126 ?_
      | refine s_X9_copy_133 ?_
      | refine s_X9_copy_136 ?_
      | refine s_X9_copy_171 ?_
      simp (disch := omega) only [B_X9_copy_0, wi_iload_n, wi_invokestatic, B_X9_copy_4, wi_if_eq, B_X9_copy_11, wi_if_ne, B_X9_copy_14, wi_iconst, wi_ireturn, B_X9_copy_16, wi_iload, wi_if_ge, wi_aload_n, wi_invokevirtual, cnt_8, B_X9_copy_26, B_X9_copy_27, wi_getfield, fldv_8_5, fds_8_5, wi_iaload, wi_if_lt, cnt_31, aTy_31, aLn_31, arr_31, cnt_32, aTy_32, aLn_32, arr_32, cnt_33, aTy_33, aLn_33, arr_33, B_X9_copy_45, B_X9_copy_50, B_X9_copy_51, wi_i2l, wi_ladd, wi_lcmp, wi_if_gt, wi_if_le, B_X9_copy_95, B_X9_copy_100, B_X9_copy_101, wi_istore, B_X9_copy_104, wi_icmp_ge, fldv_8_7, fds_8_7, wi_iadd, B_X9_copy_126, wi_iastore, wi_iinc, wi_goto, B_X9_copy_133, B_X9_copy_136, fldv_8_6, fds_8_6, wi_bipush, wi_imul, B_X9_copy_171, no0, no1, nz1, nz2, nz3, nz4, nz5, nz7, nz8, Classical.not_not, bz0, bz1, wi_nil, ld_0, ld_s, isIv_I, isLv_L, isRv_R, true_and, and_true, lset_0, lset_1, lset_s, avw_I, avw_L, avw_R, clr_cons, clr_nil, kst_0, kst_1, kstL_0, kstL_1, addk_I, pA_0, pA_s, pD_0, pD_s, wid_nil, wid_cons, rcv_c, putv_I, putv_L, List.length_cons, List.length_nil, List.set_cons_zero, List.set_cons_succ, not_false_eq_true, Nat.reduceMod, Nat.reduceDiv, Nat.reduceEqDiff, Nat.reduceLT, Nat.reduceLeDiff, Nat.reduceAdd, Nat.reduceSub, reduceIte, Nat.lt_irrefl, Nat.zero_ne_one, Nat.one_ne_zero, Nat.zero_add, List.nil_append, List.cons_append, Option.toList_some, Option.toList_none, forall_const, false_implies, true_implies, false_or, or_false, true_or, or_true, i_le, i_lt, i_eq, i_eq0, i_lt0, i_0le, i_0lt, i_le0, i_in1, i_cl, nI_add, pk_mul, pk_sub, i_div, i_rem, i_sh1, i_bit, i_or, i_and, i_andn, nt_le, nf_le, nt_lt, nf_lt, nt_eq, nf_eq, not_true_eq_false, and_self, and_false, false_and, eq_self, Bool.toNat_true, Bool.toNat_false, i_bool, i_bool1, Bool.false_eq_true, Bool.true_eq_false, reduceCtorEq, i_neg1, i_neg2, i_neg3, i_neg4, i_neg5, i_neg6, i_neg7, i_neg8, i_neg9, i_nega, i_negb, i_negc, i_max2, i_min2])
    exact q
  | succ m ih =>
    intro k S hk h q
    have hg := h k (by omega)
    refine s_X9_copy_136 ?_
    simp (disch := omega) only [B_X9_copy_136, wi_iload, wi_icmp_ge, wi_aload_n, wi_getfield, fldv_8_6, fds_8_6, cnt_8, wi_bipush, wi_iload_n, wi_imul, wi_iadd, fldv_8_7, fds_8_7, wi_iaload, wi_iastore, wi_iinc, wi_goto, cnt_31, aTy_31, aLn_31, arr_31, cnt_32, aTy_32, aLn_32, arr_32, cnt_33, aTy_33, aLn_33, arr_33, no0, no1, nz1, nz2, nz3, nz4, nz5, nz7, nz8, Classical.not_not, bz0, bz1, wi_nil, ld_0, ld_s, isIv_I, isLv_L, isRv_R, true_and, and_true, lset_0, lset_1, lset_s, avw_I, avw_L, avw_R, clr_cons, clr_nil, kst_0, kst_1, kstL_0, kstL_1, addk_I, pA_0, pA_s, pD_0, pD_s, wid_nil, wid_cons, rcv_c, putv_I, putv_L, List.length_cons, List.length_nil, List.set_cons_zero, List.set_cons_succ, not_false_eq_true, Nat.reduceMod, Nat.reduceDiv, Nat.reduceEqDiff, Nat.reduceLT, Nat.reduceLeDiff, Nat.reduceAdd, Nat.reduceSub, reduceIte, Nat.lt_irrefl, Nat.zero_ne_one, Nat.one_ne_zero, Nat.zero_add, List.nil_append, List.cons_append, Option.toList_some, Option.toList_none, forall_const, false_implies, true_implies, false_or, or_false, true_or, or_true, i_le, i_lt, i_eq, i_eq0, i_lt0, i_0le, i_0lt, i_le0, i_in1, i_cl, nI_add, pk_mul, pk_sub, i_div, i_rem, i_sh1, i_bit, i_or, i_and, i_andn, nt_le, nf_le, nt_lt, nf_lt, nt_eq, nf_eq, not_true_eq_false, and_self, and_false, false_and, eq_self, Bool.toNat_true, Bool.toNat_false, i_bool, i_bool1, Bool.false_eq_true, Bool.true_eq_false, reduceCtorEq, i_neg1, i_neg2, i_neg3, i_neg4, i_neg5, i_neg6, i_neg7, i_neg8, i_neg9, i_nega, i_negb, i_negc, i_max2, i_min2, hg]
    refine ih (k + 1) _ (by omega) (fun p hp => h p hp) ?_
    rw [gA_same, sA_sA]
    have e : fb_put (upd (gA S 32 0) (40 * t + j + k) (g k)) (fun p => g (p + (k + 1))) (40 * t + j + (k + 1)) (n - (k + 1)) = fb_put (gA S 32 0) (fun p => g (p + k)) (40 * t + j + k) (n - k) := by
      funext x
      by_cases h1 : x = 40 * t + j + k
      · subst h1
        rw [fb_put_out (by omega), pk_us, fb_put_in (by omega) (by omega)]
        congr 1
        omega
      · by_cases h2 : 40 * t + j + (k + 1) ≤ x ∧ x < 40 * t + j + (k + 1) + (n - (k + 1))
        · rw [fb_put_in h2.1 h2.2, fb_put_in (by omega) (by omega)]
          congr 1
          omega
        · rw [fb_put_out (by omega), fb_put_out (by omega), pk_un h1]
    rw [e]
    exact q
theorem lc_gt {x y : Int64} : (0 < lg_cmp x y) = (y.toInt < x.toInt) := by rw [lg_cmp_gt, Int64.lt_iff_toInt_lt]
theorem lc_le {x y : Int64} : (lg_cmp x y ≤ 0) = (x.toInt ≤ y.toInt) := by rw [lg_cmp_le, Int64.le_iff_toInt_le]
theorem lsum_ii {x y : Int32} : (x.toInt64 + y.toInt64).toInt = x.toInt + y.toInt := by
  have h1 := fb_rng x
  have h2 := fb_rng y
  rw [fb_addL (by rw [Int32.toInt_toInt64, Int32.toInt_toInt64]; omega) (by rw [Int32.toInt_toInt64, Int32.toInt_toInt64]; omega), Int32.toInt_toInt64, Int32.toInt_toInt64]
theorem o_copy {r i t j n : Int32} (h : Rr S) : wpM (d + 10) mX8_copy [aR 7 0, aI r, aI i, aI t, aI j, aI n] S (PX d mX9_copy [aI r, aI i, aI t, aI j, aI n]) := by
  obtain ⟨⟨rs, rc, h1⟩, hh⟩ := id h
  cases hr : inB r 6
  · refine x_entry (ls2 := [aR 7 0, aI r, aI i, aI t, aI j, aI n]) (Nat.le_of_ble_eq_true rfl) pl_8 rfl (Nat.le_of_ble_eq_true rfl) ?_
    try simp (disch := omega) only [no0, no1, nz1, nz2, nz3, nz4, nz5, nz7, nz8, Classical.not_not, bz0, bz1, wi_nil, ld_0, ld_s, isIv_I, isLv_L, isRv_R, true_and, and_true, lset_0, lset_1, lset_s, avw_I, avw_L, avw_R, clr_cons, clr_nil, kst_0, kst_1, kstL_0, kstL_1, addk_I, pA_0, pA_s, pD_0, pD_s, wid_nil, wid_cons, rcv_c, putv_I, putv_L, List.length_cons, List.length_nil, List.set_cons_zero, List.set_cons_succ, not_false_eq_true, Nat.reduceMod, Nat.reduceDiv, Nat.reduceEqDiff, Nat.reduceLT, Nat.reduceLeDiff, Nat.reduceAdd, Nat.reduceSub, reduceIte, Nat.lt_irrefl, Nat.zero_ne_one, Nat.one_ne_zero, Nat.zero_add, List.nil_append, List.cons_append, Option.toList_some, Option.toList_none, forall_const, false_implies, true_implies, false_or, or_false, true_or, or_true, i_le, i_lt, i_eq, i_eq0, i_lt0, i_0le, i_0lt, i_le0, i_in1, i_cl, nI_add, pk_mul, pk_sub, i_div, i_rem, i_sh1, i_bit, i_or, i_and, i_andn, nt_le, nf_le, nt_lt, nf_lt, nt_eq, nf_eq, not_true_eq_false, and_self, and_false, false_and, eq_self, Bool.toNat_true, Bool.toNat_false, i_bool, i_bool1, Bool.false_eq_true, Bool.true_eq_false, reduceCtorEq, i_neg1, i_neg2, i_neg3, i_neg4, i_neg5, i_neg6, i_neg7, i_neg8, i_neg9, i_nega, i_negb, i_negc, i_max2, i_min2, wi_nil]
    repeat (
      first
      | refine s_X8_copy_0 ?_
      | refine s_X8_copy_4 ?_
      | refine s_X8_copy_11 ?_
      | refine s_X8_copy_14 ?_
      | refine s_X8_copy_16 ?_
      | refine s_X8_copy_26 ?_
      | refine s_X8_copy_27 ?_
      | refine s_X8_copy_35 ?_
      | refine s_X8_copy_46 ?_
      | refine s_X8_copy_49 ?_
      | refine s_X8_copy_54 ?_
      | refine s_X8_copy_55 ?_
      | refine s_X8_copy_66 ?_
      | refine s_X8_copy_81 ?_
      | refine s_X8_copy_84 ?_
      | refine s_X8_copy_89 ?_
      | refine s_X8_copy_90 ?_
      | refine s_X8_copy_104 ?_
      simp (disch := omega) only [B_X8_copy_0, wi_iload_n, wi_invokestatic, B_X8_copy_4, wi_if_eq, B_X8_copy_11, wi_if_ne, B_X8_copy_14, wi_iconst, wi_ireturn, B_X8_copy_16, wi_iload, wi_if_ge, wi_aload_n, wi_invokevirtual, cnt_7, B_X8_copy_26, B_X8_copy_27, wi_getfield, fldv_7_0, fds_7_0, cnt_3, B_X8_copy_35, B_X8_copy_46, B_X8_copy_49, B_X8_copy_54, B_X8_copy_55, B_X8_copy_66, B_X8_copy_81, B_X8_copy_84, B_X8_copy_89, B_X8_copy_90, B_X8_copy_104, no0, no1, nz1, nz2, nz3, nz4, nz5, nz7, nz8, Classical.not_not, bz0, bz1, wi_nil, ld_0, ld_s, isIv_I, isLv_L, isRv_R, true_and, and_true, lset_0, lset_1, lset_s, avw_I, avw_L, avw_R, clr_cons, clr_nil, kst_0, kst_1, kstL_0, kstL_1, addk_I, pA_0, pA_s, pD_0, pD_s, wid_nil, wid_cons, rcv_c, putv_I, putv_L, List.length_cons, List.length_nil, List.set_cons_zero, List.set_cons_succ, not_false_eq_true, Nat.reduceMod, Nat.reduceDiv, Nat.reduceEqDiff, Nat.reduceLT, Nat.reduceLeDiff, Nat.reduceAdd, Nat.reduceSub, reduceIte, Nat.lt_irrefl, Nat.zero_ne_one, Nat.one_ne_zero, Nat.zero_add, List.nil_append, List.cons_append, Option.toList_some, Option.toList_none, forall_const, false_implies, true_implies, false_or, or_false, true_or, or_true, i_le, i_lt, i_eq, i_eq0, i_lt0, i_0le, i_0lt, i_le0, i_in1, i_cl, nI_add, pk_mul, pk_sub, i_div, i_rem, i_sh1, i_bit, i_or, i_and, i_andn, nt_le, nf_le, nt_lt, nf_lt, nt_eq, nf_eq, not_true_eq_false, and_self, and_false, false_and, eq_self, Bool.toNat_true, Bool.toNat_false, i_bool, i_bool1, Bool.false_eq_true, Bool.true_eq_false, reduceCtorEq, i_neg1, i_neg2, i_neg3, i_neg4, i_neg5, i_neg6, i_neg7, i_neg8, i_neg9, i_nega, i_negb, i_negc, i_max2, i_min2])
    refine c_isRow ?_
    try simp (disch := omega) only [no0, no1, nz1, nz2, nz3, nz4, nz5, nz7, nz8, Classical.not_not, bz0, bz1, wi_nil, ld_0, ld_s, isIv_I, isLv_L, isRv_R, true_and, and_true, lset_0, lset_1, lset_s, avw_I, avw_L, avw_R, clr_cons, clr_nil, kst_0, kst_1, kstL_0, kstL_1, addk_I, pA_0, pA_s, pD_0, pD_s, wid_nil, wid_cons, rcv_c, putv_I, putv_L, List.length_cons, List.length_nil, List.set_cons_zero, List.set_cons_succ, not_false_eq_true, Nat.reduceMod, Nat.reduceDiv, Nat.reduceEqDiff, Nat.reduceLT, Nat.reduceLeDiff, Nat.reduceAdd, Nat.reduceSub, reduceIte, Nat.lt_irrefl, Nat.zero_ne_one, Nat.one_ne_zero, Nat.zero_add, List.nil_append, List.cons_append, Option.toList_some, Option.toList_none, forall_const, false_implies, true_implies, false_or, or_false, true_or, or_true, i_le, i_lt, i_eq, i_eq0, i_lt0, i_0le, i_0lt, i_le0, i_in1, i_cl, nI_add, pk_mul, pk_sub, i_div, i_rem, i_sh1, i_bit, i_or, i_and, i_andn, nt_le, nf_le, nt_lt, nf_lt, nt_eq, nf_eq, not_true_eq_false, and_self, and_false, false_and, eq_self, Bool.toNat_true, Bool.toNat_false, i_bool, i_bool1, Bool.false_eq_true, Bool.true_eq_false, reduceCtorEq, i_neg1, i_neg2, i_neg3, i_neg4, i_neg5, i_neg6, i_neg7, i_neg8, i_neg9, i_nega, i_negb, i_negc, i_max2, i_min2, hr, wi_nil]
    repeat (
      first
      | refine s_X8_copy_0 ?_
      | refine s_X8_copy_4 ?_
      | refine s_X8_copy_11 ?_
      | refine s_X8_copy_14 ?_
      | refine s_X8_copy_16 ?_
      | refine s_X8_copy_26 ?_
      | refine s_X8_copy_27 ?_
      | refine s_X8_copy_35 ?_
      | refine s_X8_copy_46 ?_
      | refine s_X8_copy_49 ?_
      | refine s_X8_copy_54 ?_
      | refine s_X8_copy_55 ?_
      | refine s_X8_copy_66 ?_
      | refine s_X8_copy_81 ?_
      | refine s_X8_copy_84 ?_
      | refine s_X8_copy_89 ?_
      | refine s_X8_copy_90 ?_
      | refine s_X8_copy_104 ?_
      simp (disch := omega) only [B_X8_copy_0, wi_iload_n, wi_invokestatic, B_X8_copy_4, wi_if_eq, B_X8_copy_11, wi_if_ne, B_X8_copy_14, wi_iconst, wi_ireturn, B_X8_copy_16, wi_iload, wi_if_ge, wi_aload_n, wi_invokevirtual, cnt_7, B_X8_copy_26, B_X8_copy_27, wi_getfield, fldv_7_0, fds_7_0, cnt_3, B_X8_copy_35, B_X8_copy_46, B_X8_copy_49, B_X8_copy_54, B_X8_copy_55, B_X8_copy_66, B_X8_copy_81, B_X8_copy_84, B_X8_copy_89, B_X8_copy_90, B_X8_copy_104, no0, no1, nz1, nz2, nz3, nz4, nz5, nz7, nz8, Classical.not_not, bz0, bz1, wi_nil, ld_0, ld_s, isIv_I, isLv_L, isRv_R, true_and, and_true, lset_0, lset_1, lset_s, avw_I, avw_L, avw_R, clr_cons, clr_nil, kst_0, kst_1, kstL_0, kstL_1, addk_I, pA_0, pA_s, pD_0, pD_s, wid_nil, wid_cons, rcv_c, putv_I, putv_L, List.length_cons, List.length_nil, List.set_cons_zero, List.set_cons_succ, not_false_eq_true, Nat.reduceMod, Nat.reduceDiv, Nat.reduceEqDiff, Nat.reduceLT, Nat.reduceLeDiff, Nat.reduceAdd, Nat.reduceSub, reduceIte, Nat.lt_irrefl, Nat.zero_ne_one, Nat.one_ne_zero, Nat.zero_add, List.nil_append, List.cons_append, Option.toList_some, Option.toList_none, forall_const, false_implies, true_implies, false_or, or_false, true_or, or_true, i_le, i_lt, i_eq, i_eq0, i_lt0, i_0le, i_0lt, i_le0, i_in1, i_cl, nI_add, pk_mul, pk_sub, i_div, i_rem, i_sh1, i_bit, i_or, i_and, i_andn, nt_le, nf_le, nt_lt, nf_lt, nt_eq, nf_eq, not_true_eq_false, and_self, and_false, false_and, eq_self, Bool.toNat_true, Bool.toNat_false, i_bool, i_bool1, Bool.false_eq_true, Bool.true_eq_false, reduceCtorEq, i_neg1, i_neg2, i_neg3, i_neg4, i_neg5, i_neg6, i_neg7, i_neg8, i_neg9, i_nega, i_negb, i_negc, i_max2, i_min2, hr])
    refine px ?_
    refine x_entry (ls2 := [aR 8 0, aI r, aI i, aI t, aI j, aI n, aU]) (Nat.le_of_ble_eq_true rfl) pl_9 rfl (Nat.le_of_ble_eq_true rfl) ?_
    try simp (disch := omega) only [no0, no1, nz1, nz2, nz3, nz4, nz5, nz7, nz8, Classical.not_not, bz0, bz1, wi_nil, ld_0, ld_s, isIv_I, isLv_L, isRv_R, true_and, and_true, lset_0, lset_1, lset_s, avw_I, avw_L, avw_R, clr_cons, clr_nil, kst_0, kst_1, kstL_0, kstL_1, addk_I, pA_0, pA_s, pD_0, pD_s, wid_nil, wid_cons, rcv_c, putv_I, putv_L, List.length_cons, List.length_nil, List.set_cons_zero, List.set_cons_succ, not_false_eq_true, Nat.reduceMod, Nat.reduceDiv, Nat.reduceEqDiff, Nat.reduceLT, Nat.reduceLeDiff, Nat.reduceAdd, Nat.reduceSub, reduceIte, Nat.lt_irrefl, Nat.zero_ne_one, Nat.one_ne_zero, Nat.zero_add, List.nil_append, List.cons_append, Option.toList_some, Option.toList_none, forall_const, false_implies, true_implies, false_or, or_false, true_or, or_true, i_le, i_lt, i_eq, i_eq0, i_lt0, i_0le, i_0lt, i_le0, i_in1, i_cl, nI_add, pk_mul, pk_sub, i_div, i_rem, i_sh1, i_bit, i_or, i_and, i_andn, nt_le, nf_le, nt_lt, nf_lt, nt_eq, nf_eq, not_true_eq_false, and_self, and_false, false_and, eq_self, Bool.toNat_true, Bool.toNat_false, i_bool, i_bool1, Bool.false_eq_true, Bool.true_eq_false, reduceCtorEq, i_neg1, i_neg2, i_neg3, i_neg4, i_neg5, i_neg6, i_neg7, i_neg8, i_neg9, i_nega, i_negb, i_negc, i_max2, i_min2, wi_nil]
    repeat (
      first
      | refine s_X9_copy_0 ?_
      | refine s_X9_copy_4 ?_
      | refine s_X9_copy_11 ?_
      | refine s_X9_copy_14 ?_
      | refine s_X9_copy_16 ?_
      | refine s_X9_copy_26 ?_
      | refine s_X9_copy_27 ?_
      | refine s_X9_copy_45 ?_
      | refine s_X9_copy_50 ?_
      | refine s_X9_copy_51 ?_
      | refine s_X9_copy_95 ?_
      | refine s_X9_copy_100 ?_
      | refine s_X9_copy_101 ?_
      | refine s_X9_copy_126 ?_
      | refine s_X9_copy_133 ?_
      | refine s_X9_copy_171 ?_
      simp (disch := omega) only [B_X9_copy_0, wi_iload_n, wi_invokestatic, B_X9_copy_4, wi_if_eq, B_X9_copy_11, wi_if_ne, B_X9_copy_14, wi_iconst, wi_ireturn, B_X9_copy_16, wi_iload, wi_if_ge, wi_aload_n, wi_invokevirtual, cnt_8, B_X9_copy_26, B_X9_copy_27, wi_getfield, fldv_8_5, fds_8_5, wi_iaload, wi_if_lt, cnt_31, aTy_31, aLn_31, arr_31, cnt_32, aTy_32, aLn_32, arr_32, cnt_33, aTy_33, aLn_33, arr_33, B_X9_copy_45, B_X9_copy_50, B_X9_copy_51, wi_i2l, wi_ladd, wi_lcmp, wi_if_gt, wi_if_le, B_X9_copy_95, B_X9_copy_100, B_X9_copy_101, wi_istore, B_X9_copy_104, wi_icmp_ge, fldv_8_7, fds_8_7, wi_iadd, B_X9_copy_126, wi_iastore, wi_iinc, wi_goto, B_X9_copy_133, B_X9_copy_136, fldv_8_6, fds_8_6, wi_bipush, wi_imul, B_X9_copy_171, no0, no1, nz1, nz2, nz3, nz4, nz5, nz7, nz8, Classical.not_not, bz0, bz1, wi_nil, ld_0, ld_s, isIv_I, isLv_L, isRv_R, true_and, and_true, lset_0, lset_1, lset_s, avw_I, avw_L, avw_R, clr_cons, clr_nil, kst_0, kst_1, kstL_0, kstL_1, addk_I, pA_0, pA_s, pD_0, pD_s, wid_nil, wid_cons, rcv_c, putv_I, putv_L, List.length_cons, List.length_nil, List.set_cons_zero, List.set_cons_succ, not_false_eq_true, Nat.reduceMod, Nat.reduceDiv, Nat.reduceEqDiff, Nat.reduceLT, Nat.reduceLeDiff, Nat.reduceAdd, Nat.reduceSub, reduceIte, Nat.lt_irrefl, Nat.zero_ne_one, Nat.one_ne_zero, Nat.zero_add, List.nil_append, List.cons_append, Option.toList_some, Option.toList_none, forall_const, false_implies, true_implies, false_or, or_false, true_or, or_true, i_le, i_lt, i_eq, i_eq0, i_lt0, i_0le, i_0lt, i_le0, i_in1, i_cl, nI_add, pk_mul, pk_sub, i_div, i_rem, i_sh1, i_bit, i_or, i_and, i_andn, nt_le, nf_le, nt_lt, nf_lt, nt_eq, nf_eq, not_true_eq_false, and_self, and_false, false_and, eq_self, Bool.toNat_true, Bool.toNat_false, i_bool, i_bool1, Bool.false_eq_true, Bool.true_eq_false, reduceCtorEq, i_neg1, i_neg2, i_neg3, i_neg4, i_neg5, i_neg6, i_neg7, i_neg8, i_neg9, i_nega, i_negb, i_negc, i_max2, i_min2])
    refine c_mRow ?_
    try simp (disch := omega) only [no0, no1, nz1, nz2, nz3, nz4, nz5, nz7, nz8, Classical.not_not, bz0, bz1, wi_nil, ld_0, ld_s, isIv_I, isLv_L, isRv_R, true_and, and_true, lset_0, lset_1, lset_s, avw_I, avw_L, avw_R, clr_cons, clr_nil, kst_0, kst_1, kstL_0, kstL_1, addk_I, pA_0, pA_s, pD_0, pD_s, wid_nil, wid_cons, rcv_c, putv_I, putv_L, List.length_cons, List.length_nil, List.set_cons_zero, List.set_cons_succ, not_false_eq_true, Nat.reduceMod, Nat.reduceDiv, Nat.reduceEqDiff, Nat.reduceLT, Nat.reduceLeDiff, Nat.reduceAdd, Nat.reduceSub, reduceIte, Nat.lt_irrefl, Nat.zero_ne_one, Nat.one_ne_zero, Nat.zero_add, List.nil_append, List.cons_append, Option.toList_some, Option.toList_none, forall_const, false_implies, true_implies, false_or, or_false, true_or, or_true, i_le, i_lt, i_eq, i_eq0, i_lt0, i_0le, i_0lt, i_le0, i_in1, i_cl, nI_add, pk_mul, pk_sub, i_div, i_rem, i_sh1, i_bit, i_or, i_and, i_andn, nt_le, nf_le, nt_lt, nf_lt, nt_eq, nf_eq, not_true_eq_false, and_self, and_false, false_and, eq_self, Bool.toNat_true, Bool.toNat_false, i_bool, i_bool1, Bool.false_eq_true, Bool.true_eq_false, reduceCtorEq, i_neg1, i_neg2, i_neg3, i_neg4, i_neg5, i_neg6, i_neg7, i_neg8, i_neg9, i_nega, i_negb, i_negc, i_max2, i_min2, hr, wi_nil]
    repeat (
      first
      | refine s_X9_copy_0 ?_
      | refine s_X9_copy_4 ?_
      | refine s_X9_copy_11 ?_
      | refine s_X9_copy_14 ?_
      | refine s_X9_copy_16 ?_
      | refine s_X9_copy_26 ?_
      | refine s_X9_copy_27 ?_
      | refine s_X9_copy_45 ?_
      | refine s_X9_copy_50 ?_
      | refine s_X9_copy_51 ?_
      | refine s_X9_copy_95 ?_
      | refine s_X9_copy_100 ?_
      | refine s_X9_copy_101 ?_
      | refine s_X9_copy_126 ?_
      | refine s_X9_copy_133 ?_
      | refine s_X9_copy_171 ?_
      simp (disch := omega) only [B_X9_copy_0, wi_iload_n, wi_invokestatic, B_X9_copy_4, wi_if_eq, B_X9_copy_11, wi_if_ne, B_X9_copy_14, wi_iconst, wi_ireturn, B_X9_copy_16, wi_iload, wi_if_ge, wi_aload_n, wi_invokevirtual, cnt_8, B_X9_copy_26, B_X9_copy_27, wi_getfield, fldv_8_5, fds_8_5, wi_iaload, wi_if_lt, cnt_31, aTy_31, aLn_31, arr_31, cnt_32, aTy_32, aLn_32, arr_32, cnt_33, aTy_33, aLn_33, arr_33, B_X9_copy_45, B_X9_copy_50, B_X9_copy_51, wi_i2l, wi_ladd, wi_lcmp, wi_if_gt, wi_if_le, B_X9_copy_95, B_X9_copy_100, B_X9_copy_101, wi_istore, B_X9_copy_104, wi_icmp_ge, fldv_8_7, fds_8_7, wi_iadd, B_X9_copy_126, wi_iastore, wi_iinc, wi_goto, B_X9_copy_133, B_X9_copy_136, fldv_8_6, fds_8_6, wi_bipush, wi_imul, B_X9_copy_171, no0, no1, nz1, nz2, nz3, nz4, nz5, nz7, nz8, Classical.not_not, bz0, bz1, wi_nil, ld_0, ld_s, isIv_I, isLv_L, isRv_R, true_and, and_true, lset_0, lset_1, lset_s, avw_I, avw_L, avw_R, clr_cons, clr_nil, kst_0, kst_1, kstL_0, kstL_1, addk_I, pA_0, pA_s, pD_0, pD_s, wid_nil, wid_cons, rcv_c, putv_I, putv_L, List.length_cons, List.length_nil, List.set_cons_zero, List.set_cons_succ, not_false_eq_true, Nat.reduceMod, Nat.reduceDiv, Nat.reduceEqDiff, Nat.reduceLT, Nat.reduceLeDiff, Nat.reduceAdd, Nat.reduceSub, reduceIte, Nat.lt_irrefl, Nat.zero_ne_one, Nat.one_ne_zero, Nat.zero_add, List.nil_append, List.cons_append, Option.toList_some, Option.toList_none, forall_const, false_implies, true_implies, false_or, or_false, true_or, or_true, i_le, i_lt, i_eq, i_eq0, i_lt0, i_0le, i_0lt, i_le0, i_in1, i_cl, nI_add, pk_mul, pk_sub, i_div, i_rem, i_sh1, i_bit, i_or, i_and, i_andn, nt_le, nf_le, nt_lt, nf_lt, nt_eq, nf_eq, not_true_eq_false, and_self, and_false, false_and, eq_self, Bool.toNat_true, Bool.toNat_false, i_bool, i_bool1, Bool.false_eq_true, Bool.true_eq_false, reduceCtorEq, i_neg1, i_neg2, i_neg3, i_neg4, i_neg5, i_neg6, i_neg7, i_neg8, i_neg9, i_nega, i_negb, i_negc, i_max2, i_min2, hr])
    exact pm h
  · cases ht : inB t 6
    · refine x_entry (ls2 := [aR 7 0, aI r, aI i, aI t, aI j, aI n]) (Nat.le_of_ble_eq_true rfl) pl_8 rfl (Nat.le_of_ble_eq_true rfl) ?_
      try simp (disch := omega) only [no0, no1, nz1, nz2, nz3, nz4, nz5, nz7, nz8, Classical.not_not, bz0, bz1, wi_nil, ld_0, ld_s, isIv_I, isLv_L, isRv_R, true_and, and_true, lset_0, lset_1, lset_s, avw_I, avw_L, avw_R, clr_cons, clr_nil, kst_0, kst_1, kstL_0, kstL_1, addk_I, pA_0, pA_s, pD_0, pD_s, wid_nil, wid_cons, rcv_c, putv_I, putv_L, List.length_cons, List.length_nil, List.set_cons_zero, List.set_cons_succ, not_false_eq_true, Nat.reduceMod, Nat.reduceDiv, Nat.reduceEqDiff, Nat.reduceLT, Nat.reduceLeDiff, Nat.reduceAdd, Nat.reduceSub, reduceIte, Nat.lt_irrefl, Nat.zero_ne_one, Nat.one_ne_zero, Nat.zero_add, List.nil_append, List.cons_append, Option.toList_some, Option.toList_none, forall_const, false_implies, true_implies, false_or, or_false, true_or, or_true, i_le, i_lt, i_eq, i_eq0, i_lt0, i_0le, i_0lt, i_le0, i_in1, i_cl, nI_add, pk_mul, pk_sub, i_div, i_rem, i_sh1, i_bit, i_or, i_and, i_andn, nt_le, nf_le, nt_lt, nf_lt, nt_eq, nf_eq, not_true_eq_false, and_self, and_false, false_and, eq_self, Bool.toNat_true, Bool.toNat_false, i_bool, i_bool1, Bool.false_eq_true, Bool.true_eq_false, reduceCtorEq, i_neg1, i_neg2, i_neg3, i_neg4, i_neg5, i_neg6, i_neg7, i_neg8, i_neg9, i_nega, i_negb, i_negc, i_max2, i_min2, wi_nil]
      repeat (
        first
        | refine s_X8_copy_0 ?_
        | refine s_X8_copy_4 ?_
        | refine s_X8_copy_11 ?_
        | refine s_X8_copy_14 ?_
        | refine s_X8_copy_16 ?_
        | refine s_X8_copy_26 ?_
        | refine s_X8_copy_27 ?_
        | refine s_X8_copy_35 ?_
        | refine s_X8_copy_46 ?_
        | refine s_X8_copy_49 ?_
        | refine s_X8_copy_54 ?_
        | refine s_X8_copy_55 ?_
        | refine s_X8_copy_66 ?_
        | refine s_X8_copy_81 ?_
        | refine s_X8_copy_84 ?_
        | refine s_X8_copy_89 ?_
        | refine s_X8_copy_90 ?_
        | refine s_X8_copy_104 ?_
        simp (disch := omega) only [B_X8_copy_0, wi_iload_n, wi_invokestatic, B_X8_copy_4, wi_if_eq, B_X8_copy_11, wi_if_ne, B_X8_copy_14, wi_iconst, wi_ireturn, B_X8_copy_16, wi_iload, wi_if_ge, wi_aload_n, wi_invokevirtual, cnt_7, B_X8_copy_26, B_X8_copy_27, wi_getfield, fldv_7_0, fds_7_0, cnt_3, B_X8_copy_35, B_X8_copy_46, B_X8_copy_49, B_X8_copy_54, B_X8_copy_55, B_X8_copy_66, B_X8_copy_81, B_X8_copy_84, B_X8_copy_89, B_X8_copy_90, B_X8_copy_104, no0, no1, nz1, nz2, nz3, nz4, nz5, nz7, nz8, Classical.not_not, bz0, bz1, wi_nil, ld_0, ld_s, isIv_I, isLv_L, isRv_R, true_and, and_true, lset_0, lset_1, lset_s, avw_I, avw_L, avw_R, clr_cons, clr_nil, kst_0, kst_1, kstL_0, kstL_1, addk_I, pA_0, pA_s, pD_0, pD_s, wid_nil, wid_cons, rcv_c, putv_I, putv_L, List.length_cons, List.length_nil, List.set_cons_zero, List.set_cons_succ, not_false_eq_true, Nat.reduceMod, Nat.reduceDiv, Nat.reduceEqDiff, Nat.reduceLT, Nat.reduceLeDiff, Nat.reduceAdd, Nat.reduceSub, reduceIte, Nat.lt_irrefl, Nat.zero_ne_one, Nat.one_ne_zero, Nat.zero_add, List.nil_append, List.cons_append, Option.toList_some, Option.toList_none, forall_const, false_implies, true_implies, false_or, or_false, true_or, or_true, i_le, i_lt, i_eq, i_eq0, i_lt0, i_0le, i_0lt, i_le0, i_in1, i_cl, nI_add, pk_mul, pk_sub, i_div, i_rem, i_sh1, i_bit, i_or, i_and, i_andn, nt_le, nf_le, nt_lt, nf_lt, nt_eq, nf_eq, not_true_eq_false, and_self, and_false, false_and, eq_self, Bool.toNat_true, Bool.toNat_false, i_bool, i_bool1, Bool.false_eq_true, Bool.true_eq_false, reduceCtorEq, i_neg1, i_neg2, i_neg3, i_neg4, i_neg5, i_neg6, i_neg7, i_neg8, i_neg9, i_nega, i_negb, i_negc, i_max2, i_min2])
      refine c_isRow ?_
      try simp (disch := omega) only [no0, no1, nz1, nz2, nz3, nz4, nz5, nz7, nz8, Classical.not_not, bz0, bz1, wi_nil, ld_0, ld_s, isIv_I, isLv_L, isRv_R, true_and, and_true, lset_0, lset_1, lset_s, avw_I, avw_L, avw_R, clr_cons, clr_nil, kst_0, kst_1, kstL_0, kstL_1, addk_I, pA_0, pA_s, pD_0, pD_s, wid_nil, wid_cons, rcv_c, putv_I, putv_L, List.length_cons, List.length_nil, List.set_cons_zero, List.set_cons_succ, not_false_eq_true, Nat.reduceMod, Nat.reduceDiv, Nat.reduceEqDiff, Nat.reduceLT, Nat.reduceLeDiff, Nat.reduceAdd, Nat.reduceSub, reduceIte, Nat.lt_irrefl, Nat.zero_ne_one, Nat.one_ne_zero, Nat.zero_add, List.nil_append, List.cons_append, Option.toList_some, Option.toList_none, forall_const, false_implies, true_implies, false_or, or_false, true_or, or_true, i_le, i_lt, i_eq, i_eq0, i_lt0, i_0le, i_0lt, i_le0, i_in1, i_cl, nI_add, pk_mul, pk_sub, i_div, i_rem, i_sh1, i_bit, i_or, i_and, i_andn, nt_le, nf_le, nt_lt, nf_lt, nt_eq, nf_eq, not_true_eq_false, and_self, and_false, false_and, eq_self, Bool.toNat_true, Bool.toNat_false, i_bool, i_bool1, Bool.false_eq_true, Bool.true_eq_false, reduceCtorEq, i_neg1, i_neg2, i_neg3, i_neg4, i_neg5, i_neg6, i_neg7, i_neg8, i_neg9, i_nega, i_negb, i_negc, i_max2, i_min2, hr, wi_nil]
      repeat (
        first
        | refine s_X8_copy_0 ?_
        | refine s_X8_copy_4 ?_
        | refine s_X8_copy_11 ?_
        | refine s_X8_copy_14 ?_
        | refine s_X8_copy_16 ?_
        | refine s_X8_copy_26 ?_
        | refine s_X8_copy_27 ?_
        | refine s_X8_copy_35 ?_
        | refine s_X8_copy_46 ?_
        | refine s_X8_copy_49 ?_
        | refine s_X8_copy_54 ?_
        | refine s_X8_copy_55 ?_
        | refine s_X8_copy_66 ?_
        | refine s_X8_copy_81 ?_
        | refine s_X8_copy_84 ?_
        | refine s_X8_copy_89 ?_
        | refine s_X8_copy_90 ?_
        | refine s_X8_copy_104 ?_
        simp (disch := omega) only [B_X8_copy_0, wi_iload_n, wi_invokestatic, B_X8_copy_4, wi_if_eq, B_X8_copy_11, wi_if_ne, B_X8_copy_14, wi_iconst, wi_ireturn, B_X8_copy_16, wi_iload, wi_if_ge, wi_aload_n, wi_invokevirtual, cnt_7, B_X8_copy_26, B_X8_copy_27, wi_getfield, fldv_7_0, fds_7_0, cnt_3, B_X8_copy_35, B_X8_copy_46, B_X8_copy_49, B_X8_copy_54, B_X8_copy_55, B_X8_copy_66, B_X8_copy_81, B_X8_copy_84, B_X8_copy_89, B_X8_copy_90, B_X8_copy_104, no0, no1, nz1, nz2, nz3, nz4, nz5, nz7, nz8, Classical.not_not, bz0, bz1, wi_nil, ld_0, ld_s, isIv_I, isLv_L, isRv_R, true_and, and_true, lset_0, lset_1, lset_s, avw_I, avw_L, avw_R, clr_cons, clr_nil, kst_0, kst_1, kstL_0, kstL_1, addk_I, pA_0, pA_s, pD_0, pD_s, wid_nil, wid_cons, rcv_c, putv_I, putv_L, List.length_cons, List.length_nil, List.set_cons_zero, List.set_cons_succ, not_false_eq_true, Nat.reduceMod, Nat.reduceDiv, Nat.reduceEqDiff, Nat.reduceLT, Nat.reduceLeDiff, Nat.reduceAdd, Nat.reduceSub, reduceIte, Nat.lt_irrefl, Nat.zero_ne_one, Nat.one_ne_zero, Nat.zero_add, List.nil_append, List.cons_append, Option.toList_some, Option.toList_none, forall_const, false_implies, true_implies, false_or, or_false, true_or, or_true, i_le, i_lt, i_eq, i_eq0, i_lt0, i_0le, i_0lt, i_le0, i_in1, i_cl, nI_add, pk_mul, pk_sub, i_div, i_rem, i_sh1, i_bit, i_or, i_and, i_andn, nt_le, nf_le, nt_lt, nf_lt, nt_eq, nf_eq, not_true_eq_false, and_self, and_false, false_and, eq_self, Bool.toNat_true, Bool.toNat_false, i_bool, i_bool1, Bool.false_eq_true, Bool.true_eq_false, reduceCtorEq, i_neg1, i_neg2, i_neg3, i_neg4, i_neg5, i_neg6, i_neg7, i_neg8, i_neg9, i_nega, i_negb, i_negc, i_max2, i_min2, hr])
      refine c_isRow ?_
      try simp (disch := omega) only [no0, no1, nz1, nz2, nz3, nz4, nz5, nz7, nz8, Classical.not_not, bz0, bz1, wi_nil, ld_0, ld_s, isIv_I, isLv_L, isRv_R, true_and, and_true, lset_0, lset_1, lset_s, avw_I, avw_L, avw_R, clr_cons, clr_nil, kst_0, kst_1, kstL_0, kstL_1, addk_I, pA_0, pA_s, pD_0, pD_s, wid_nil, wid_cons, rcv_c, putv_I, putv_L, List.length_cons, List.length_nil, List.set_cons_zero, List.set_cons_succ, not_false_eq_true, Nat.reduceMod, Nat.reduceDiv, Nat.reduceEqDiff, Nat.reduceLT, Nat.reduceLeDiff, Nat.reduceAdd, Nat.reduceSub, reduceIte, Nat.lt_irrefl, Nat.zero_ne_one, Nat.one_ne_zero, Nat.zero_add, List.nil_append, List.cons_append, Option.toList_some, Option.toList_none, forall_const, false_implies, true_implies, false_or, or_false, true_or, or_true, i_le, i_lt, i_eq, i_eq0, i_lt0, i_0le, i_0lt, i_le0, i_in1, i_cl, nI_add, pk_mul, pk_sub, i_div, i_rem, i_sh1, i_bit, i_or, i_and, i_andn, nt_le, nf_le, nt_lt, nf_lt, nt_eq, nf_eq, not_true_eq_false, and_self, and_false, false_and, eq_self, Bool.toNat_true, Bool.toNat_false, i_bool, i_bool1, Bool.false_eq_true, Bool.true_eq_false, reduceCtorEq, i_neg1, i_neg2, i_neg3, i_neg4, i_neg5, i_neg6, i_neg7, i_neg8, i_neg9, i_nega, i_negb, i_negc, i_max2, i_min2, ht, wi_nil]
      repeat (
        first
        | refine s_X8_copy_0 ?_
        | refine s_X8_copy_4 ?_
        | refine s_X8_copy_11 ?_
        | refine s_X8_copy_14 ?_
        | refine s_X8_copy_16 ?_
        | refine s_X8_copy_26 ?_
        | refine s_X8_copy_27 ?_
        | refine s_X8_copy_35 ?_
        | refine s_X8_copy_46 ?_
        | refine s_X8_copy_49 ?_
        | refine s_X8_copy_54 ?_
        | refine s_X8_copy_55 ?_
        | refine s_X8_copy_66 ?_
        | refine s_X8_copy_81 ?_
        | refine s_X8_copy_84 ?_
        | refine s_X8_copy_89 ?_
        | refine s_X8_copy_90 ?_
        | refine s_X8_copy_104 ?_
        simp (disch := omega) only [B_X8_copy_0, wi_iload_n, wi_invokestatic, B_X8_copy_4, wi_if_eq, B_X8_copy_11, wi_if_ne, B_X8_copy_14, wi_iconst, wi_ireturn, B_X8_copy_16, wi_iload, wi_if_ge, wi_aload_n, wi_invokevirtual, cnt_7, B_X8_copy_26, B_X8_copy_27, wi_getfield, fldv_7_0, fds_7_0, cnt_3, B_X8_copy_35, B_X8_copy_46, B_X8_copy_49, B_X8_copy_54, B_X8_copy_55, B_X8_copy_66, B_X8_copy_81, B_X8_copy_84, B_X8_copy_89, B_X8_copy_90, B_X8_copy_104, no0, no1, nz1, nz2, nz3, nz4, nz5, nz7, nz8, Classical.not_not, bz0, bz1, wi_nil, ld_0, ld_s, isIv_I, isLv_L, isRv_R, true_and, and_true, lset_0, lset_1, lset_s, avw_I, avw_L, avw_R, clr_cons, clr_nil, kst_0, kst_1, kstL_0, kstL_1, addk_I, pA_0, pA_s, pD_0, pD_s, wid_nil, wid_cons, rcv_c, putv_I, putv_L, List.length_cons, List.length_nil, List.set_cons_zero, List.set_cons_succ, not_false_eq_true, Nat.reduceMod, Nat.reduceDiv, Nat.reduceEqDiff, Nat.reduceLT, Nat.reduceLeDiff, Nat.reduceAdd, Nat.reduceSub, reduceIte, Nat.lt_irrefl, Nat.zero_ne_one, Nat.one_ne_zero, Nat.zero_add, List.nil_append, List.cons_append, Option.toList_some, Option.toList_none, forall_const, false_implies, true_implies, false_or, or_false, true_or, or_true, i_le, i_lt, i_eq, i_eq0, i_lt0, i_0le, i_0lt, i_le0, i_in1, i_cl, nI_add, pk_mul, pk_sub, i_div, i_rem, i_sh1, i_bit, i_or, i_and, i_andn, nt_le, nf_le, nt_lt, nf_lt, nt_eq, nf_eq, not_true_eq_false, and_self, and_false, false_and, eq_self, Bool.toNat_true, Bool.toNat_false, i_bool, i_bool1, Bool.false_eq_true, Bool.true_eq_false, reduceCtorEq, i_neg1, i_neg2, i_neg3, i_neg4, i_neg5, i_neg6, i_neg7, i_neg8, i_neg9, i_nega, i_negb, i_negc, i_max2, i_min2, ht])
      refine px ?_
      refine x_entry (ls2 := [aR 8 0, aI r, aI i, aI t, aI j, aI n, aU]) (Nat.le_of_ble_eq_true rfl) pl_9 rfl (Nat.le_of_ble_eq_true rfl) ?_
      try simp (disch := omega) only [no0, no1, nz1, nz2, nz3, nz4, nz5, nz7, nz8, Classical.not_not, bz0, bz1, wi_nil, ld_0, ld_s, isIv_I, isLv_L, isRv_R, true_and, and_true, lset_0, lset_1, lset_s, avw_I, avw_L, avw_R, clr_cons, clr_nil, kst_0, kst_1, kstL_0, kstL_1, addk_I, pA_0, pA_s, pD_0, pD_s, wid_nil, wid_cons, rcv_c, putv_I, putv_L, List.length_cons, List.length_nil, List.set_cons_zero, List.set_cons_succ, not_false_eq_true, Nat.reduceMod, Nat.reduceDiv, Nat.reduceEqDiff, Nat.reduceLT, Nat.reduceLeDiff, Nat.reduceAdd, Nat.reduceSub, reduceIte, Nat.lt_irrefl, Nat.zero_ne_one, Nat.one_ne_zero, Nat.zero_add, List.nil_append, List.cons_append, Option.toList_some, Option.toList_none, forall_const, false_implies, true_implies, false_or, or_false, true_or, or_true, i_le, i_lt, i_eq, i_eq0, i_lt0, i_0le, i_0lt, i_le0, i_in1, i_cl, nI_add, pk_mul, pk_sub, i_div, i_rem, i_sh1, i_bit, i_or, i_and, i_andn, nt_le, nf_le, nt_lt, nf_lt, nt_eq, nf_eq, not_true_eq_false, and_self, and_false, false_and, eq_self, Bool.toNat_true, Bool.toNat_false, i_bool, i_bool1, Bool.false_eq_true, Bool.true_eq_false, reduceCtorEq, i_neg1, i_neg2, i_neg3, i_neg4, i_neg5, i_neg6, i_neg7, i_neg8, i_neg9, i_nega, i_negb, i_negc, i_max2, i_min2, wi_nil]
      repeat (
        first
        | refine s_X9_copy_0 ?_
        | refine s_X9_copy_4 ?_
        | refine s_X9_copy_11 ?_
        | refine s_X9_copy_14 ?_
        | refine s_X9_copy_16 ?_
        | refine s_X9_copy_26 ?_
        | refine s_X9_copy_27 ?_
        | refine s_X9_copy_45 ?_
        | refine s_X9_copy_50 ?_
        | refine s_X9_copy_51 ?_
        | refine s_X9_copy_95 ?_
        | refine s_X9_copy_100 ?_
        | refine s_X9_copy_101 ?_
        | refine s_X9_copy_126 ?_
        | refine s_X9_copy_133 ?_
        | refine s_X9_copy_171 ?_
        simp (disch := omega) only [B_X9_copy_0, wi_iload_n, wi_invokestatic, B_X9_copy_4, wi_if_eq, B_X9_copy_11, wi_if_ne, B_X9_copy_14, wi_iconst, wi_ireturn, B_X9_copy_16, wi_iload, wi_if_ge, wi_aload_n, wi_invokevirtual, cnt_8, B_X9_copy_26, B_X9_copy_27, wi_getfield, fldv_8_5, fds_8_5, wi_iaload, wi_if_lt, cnt_31, aTy_31, aLn_31, arr_31, cnt_32, aTy_32, aLn_32, arr_32, cnt_33, aTy_33, aLn_33, arr_33, B_X9_copy_45, B_X9_copy_50, B_X9_copy_51, wi_i2l, wi_ladd, wi_lcmp, wi_if_gt, wi_if_le, B_X9_copy_95, B_X9_copy_100, B_X9_copy_101, wi_istore, B_X9_copy_104, wi_icmp_ge, fldv_8_7, fds_8_7, wi_iadd, B_X9_copy_126, wi_iastore, wi_iinc, wi_goto, B_X9_copy_133, B_X9_copy_136, fldv_8_6, fds_8_6, wi_bipush, wi_imul, B_X9_copy_171, no0, no1, nz1, nz2, nz3, nz4, nz5, nz7, nz8, Classical.not_not, bz0, bz1, wi_nil, ld_0, ld_s, isIv_I, isLv_L, isRv_R, true_and, and_true, lset_0, lset_1, lset_s, avw_I, avw_L, avw_R, clr_cons, clr_nil, kst_0, kst_1, kstL_0, kstL_1, addk_I, pA_0, pA_s, pD_0, pD_s, wid_nil, wid_cons, rcv_c, putv_I, putv_L, List.length_cons, List.length_nil, List.set_cons_zero, List.set_cons_succ, not_false_eq_true, Nat.reduceMod, Nat.reduceDiv, Nat.reduceEqDiff, Nat.reduceLT, Nat.reduceLeDiff, Nat.reduceAdd, Nat.reduceSub, reduceIte, Nat.lt_irrefl, Nat.zero_ne_one, Nat.one_ne_zero, Nat.zero_add, List.nil_append, List.cons_append, Option.toList_some, Option.toList_none, forall_const, false_implies, true_implies, false_or, or_false, true_or, or_true, i_le, i_lt, i_eq, i_eq0, i_lt0, i_0le, i_0lt, i_le0, i_in1, i_cl, nI_add, pk_mul, pk_sub, i_div, i_rem, i_sh1, i_bit, i_or, i_and, i_andn, nt_le, nf_le, nt_lt, nf_lt, nt_eq, nf_eq, not_true_eq_false, and_self, and_false, false_and, eq_self, Bool.toNat_true, Bool.toNat_false, i_bool, i_bool1, Bool.false_eq_true, Bool.true_eq_false, reduceCtorEq, i_neg1, i_neg2, i_neg3, i_neg4, i_neg5, i_neg6, i_neg7, i_neg8, i_neg9, i_nega, i_negb, i_negc, i_max2, i_min2])
      refine c_mRow ?_
      try simp (disch := omega) only [no0, no1, nz1, nz2, nz3, nz4, nz5, nz7, nz8, Classical.not_not, bz0, bz1, wi_nil, ld_0, ld_s, isIv_I, isLv_L, isRv_R, true_and, and_true, lset_0, lset_1, lset_s, avw_I, avw_L, avw_R, clr_cons, clr_nil, kst_0, kst_1, kstL_0, kstL_1, addk_I, pA_0, pA_s, pD_0, pD_s, wid_nil, wid_cons, rcv_c, putv_I, putv_L, List.length_cons, List.length_nil, List.set_cons_zero, List.set_cons_succ, not_false_eq_true, Nat.reduceMod, Nat.reduceDiv, Nat.reduceEqDiff, Nat.reduceLT, Nat.reduceLeDiff, Nat.reduceAdd, Nat.reduceSub, reduceIte, Nat.lt_irrefl, Nat.zero_ne_one, Nat.one_ne_zero, Nat.zero_add, List.nil_append, List.cons_append, Option.toList_some, Option.toList_none, forall_const, false_implies, true_implies, false_or, or_false, true_or, or_true, i_le, i_lt, i_eq, i_eq0, i_lt0, i_0le, i_0lt, i_le0, i_in1, i_cl, nI_add, pk_mul, pk_sub, i_div, i_rem, i_sh1, i_bit, i_or, i_and, i_andn, nt_le, nf_le, nt_lt, nf_lt, nt_eq, nf_eq, not_true_eq_false, and_self, and_false, false_and, eq_self, Bool.toNat_true, Bool.toNat_false, i_bool, i_bool1, Bool.false_eq_true, Bool.true_eq_false, reduceCtorEq, i_neg1, i_neg2, i_neg3, i_neg4, i_neg5, i_neg6, i_neg7, i_neg8, i_neg9, i_nega, i_negb, i_negc, i_max2, i_min2, hr, wi_nil]
      repeat (
        first
        | refine s_X9_copy_0 ?_
        | refine s_X9_copy_4 ?_
        | refine s_X9_copy_11 ?_
        | refine s_X9_copy_14 ?_
        | refine s_X9_copy_16 ?_
        | refine s_X9_copy_26 ?_
        | refine s_X9_copy_27 ?_
        | refine s_X9_copy_45 ?_
        | refine s_X9_copy_50 ?_
        | refine s_X9_copy_51 ?_
        | refine s_X9_copy_95 ?_
        | refine s_X9_copy_100 ?_
        | refine s_X9_copy_101 ?_
        | refine s_X9_copy_126 ?_
        | refine s_X9_copy_133 ?_
        | refine s_X9_copy_171 ?_
        simp (disch := omega) only [B_X9_copy_0, wi_iload_n, wi_invokestatic, B_X9_copy_4, wi_if_eq, B_X9_copy_11, wi_if_ne, B_X9_copy_14, wi_iconst, wi_ireturn, B_X9_copy_16, wi_iload, wi_if_ge, wi_aload_n, wi_invokevirtual, cnt_8, B_X9_copy_26, B_X9_copy_27, wi_getfield, fldv_8_5, fds_8_5, wi_iaload, wi_if_lt, cnt_31, aTy_31, aLn_31, arr_31, cnt_32, aTy_32, aLn_32, arr_32, cnt_33, aTy_33, aLn_33, arr_33, B_X9_copy_45, B_X9_copy_50, B_X9_copy_51, wi_i2l, wi_ladd, wi_lcmp, wi_if_gt, wi_if_le, B_X9_copy_95, B_X9_copy_100, B_X9_copy_101, wi_istore, B_X9_copy_104, wi_icmp_ge, fldv_8_7, fds_8_7, wi_iadd, B_X9_copy_126, wi_iastore, wi_iinc, wi_goto, B_X9_copy_133, B_X9_copy_136, fldv_8_6, fds_8_6, wi_bipush, wi_imul, B_X9_copy_171, no0, no1, nz1, nz2, nz3, nz4, nz5, nz7, nz8, Classical.not_not, bz0, bz1, wi_nil, ld_0, ld_s, isIv_I, isLv_L, isRv_R, true_and, and_true, lset_0, lset_1, lset_s, avw_I, avw_L, avw_R, clr_cons, clr_nil, kst_0, kst_1, kstL_0, kstL_1, addk_I, pA_0, pA_s, pD_0, pD_s, wid_nil, wid_cons, rcv_c, putv_I, putv_L, List.length_cons, List.length_nil, List.set_cons_zero, List.set_cons_succ, not_false_eq_true, Nat.reduceMod, Nat.reduceDiv, Nat.reduceEqDiff, Nat.reduceLT, Nat.reduceLeDiff, Nat.reduceAdd, Nat.reduceSub, reduceIte, Nat.lt_irrefl, Nat.zero_ne_one, Nat.one_ne_zero, Nat.zero_add, List.nil_append, List.cons_append, Option.toList_some, Option.toList_none, forall_const, false_implies, true_implies, false_or, or_false, true_or, or_true, i_le, i_lt, i_eq, i_eq0, i_lt0, i_0le, i_0lt, i_le0, i_in1, i_cl, nI_add, pk_mul, pk_sub, i_div, i_rem, i_sh1, i_bit, i_or, i_and, i_andn, nt_le, nf_le, nt_lt, nf_lt, nt_eq, nf_eq, not_true_eq_false, and_self, and_false, false_and, eq_self, Bool.toNat_true, Bool.toNat_false, i_bool, i_bool1, Bool.false_eq_true, Bool.true_eq_false, reduceCtorEq, i_neg1, i_neg2, i_neg3, i_neg4, i_neg5, i_neg6, i_neg7, i_neg8, i_neg9, i_nega, i_negb, i_negc, i_max2, i_min2, hr])
      refine c_mRow ?_
      try simp (disch := omega) only [no0, no1, nz1, nz2, nz3, nz4, nz5, nz7, nz8, Classical.not_not, bz0, bz1, wi_nil, ld_0, ld_s, isIv_I, isLv_L, isRv_R, true_and, and_true, lset_0, lset_1, lset_s, avw_I, avw_L, avw_R, clr_cons, clr_nil, kst_0, kst_1, kstL_0, kstL_1, addk_I, pA_0, pA_s, pD_0, pD_s, wid_nil, wid_cons, rcv_c, putv_I, putv_L, List.length_cons, List.length_nil, List.set_cons_zero, List.set_cons_succ, not_false_eq_true, Nat.reduceMod, Nat.reduceDiv, Nat.reduceEqDiff, Nat.reduceLT, Nat.reduceLeDiff, Nat.reduceAdd, Nat.reduceSub, reduceIte, Nat.lt_irrefl, Nat.zero_ne_one, Nat.one_ne_zero, Nat.zero_add, List.nil_append, List.cons_append, Option.toList_some, Option.toList_none, forall_const, false_implies, true_implies, false_or, or_false, true_or, or_true, i_le, i_lt, i_eq, i_eq0, i_lt0, i_0le, i_0lt, i_le0, i_in1, i_cl, nI_add, pk_mul, pk_sub, i_div, i_rem, i_sh1, i_bit, i_or, i_and, i_andn, nt_le, nf_le, nt_lt, nf_lt, nt_eq, nf_eq, not_true_eq_false, and_self, and_false, false_and, eq_self, Bool.toNat_true, Bool.toNat_false, i_bool, i_bool1, Bool.false_eq_true, Bool.true_eq_false, reduceCtorEq, i_neg1, i_neg2, i_neg3, i_neg4, i_neg5, i_neg6, i_neg7, i_neg8, i_neg9, i_nega, i_negb, i_negc, i_max2, i_min2, ht, wi_nil]
      repeat (
        first
        | refine s_X9_copy_0 ?_
        | refine s_X9_copy_4 ?_
        | refine s_X9_copy_11 ?_
        | refine s_X9_copy_14 ?_
        | refine s_X9_copy_16 ?_
        | refine s_X9_copy_26 ?_
        | refine s_X9_copy_27 ?_
        | refine s_X9_copy_45 ?_
        | refine s_X9_copy_50 ?_
        | refine s_X9_copy_51 ?_
        | refine s_X9_copy_95 ?_
        | refine s_X9_copy_100 ?_
        | refine s_X9_copy_101 ?_
        | refine s_X9_copy_126 ?_
        | refine s_X9_copy_133 ?_
        | refine s_X9_copy_171 ?_
        simp (disch := omega) only [B_X9_copy_0, wi_iload_n, wi_invokestatic, B_X9_copy_4, wi_if_eq, B_X9_copy_11, wi_if_ne, B_X9_copy_14, wi_iconst, wi_ireturn, B_X9_copy_16, wi_iload, wi_if_ge, wi_aload_n, wi_invokevirtual, cnt_8, B_X9_copy_26, B_X9_copy_27, wi_getfield, fldv_8_5, fds_8_5, wi_iaload, wi_if_lt, cnt_31, aTy_31, aLn_31, arr_31, cnt_32, aTy_32, aLn_32, arr_32, cnt_33, aTy_33, aLn_33, arr_33, B_X9_copy_45, B_X9_copy_50, B_X9_copy_51, wi_i2l, wi_ladd, wi_lcmp, wi_if_gt, wi_if_le, B_X9_copy_95, B_X9_copy_100, B_X9_copy_101, wi_istore, B_X9_copy_104, wi_icmp_ge, fldv_8_7, fds_8_7, wi_iadd, B_X9_copy_126, wi_iastore, wi_iinc, wi_goto, B_X9_copy_133, B_X9_copy_136, fldv_8_6, fds_8_6, wi_bipush, wi_imul, B_X9_copy_171, no0, no1, nz1, nz2, nz3, nz4, nz5, nz7, nz8, Classical.not_not, bz0, bz1, wi_nil, ld_0, ld_s, isIv_I, isLv_L, isRv_R, true_and, and_true, lset_0, lset_1, lset_s, avw_I, avw_L, avw_R, clr_cons, clr_nil, kst_0, kst_1, kstL_0, kstL_1, addk_I, pA_0, pA_s, pD_0, pD_s, wid_nil, wid_cons, rcv_c, putv_I, putv_L, List.length_cons, List.length_nil, List.set_cons_zero, List.set_cons_succ, not_false_eq_true, Nat.reduceMod, Nat.reduceDiv, Nat.reduceEqDiff, Nat.reduceLT, Nat.reduceLeDiff, Nat.reduceAdd, Nat.reduceSub, reduceIte, Nat.lt_irrefl, Nat.zero_ne_one, Nat.one_ne_zero, Nat.zero_add, List.nil_append, List.cons_append, Option.toList_some, Option.toList_none, forall_const, false_implies, true_implies, false_or, or_false, true_or, or_true, i_le, i_lt, i_eq, i_eq0, i_lt0, i_0le, i_0lt, i_le0, i_in1, i_cl, nI_add, pk_mul, pk_sub, i_div, i_rem, i_sh1, i_bit, i_or, i_and, i_andn, nt_le, nf_le, nt_lt, nf_lt, nt_eq, nf_eq, not_true_eq_false, and_self, and_false, false_and, eq_self, Bool.toNat_true, Bool.toNat_false, i_bool, i_bool1, Bool.false_eq_true, Bool.true_eq_false, reduceCtorEq, i_neg1, i_neg2, i_neg3, i_neg4, i_neg5, i_neg6, i_neg7, i_neg8, i_neg9, i_nega, i_negb, i_negc, i_max2, i_min2, ht])
      exact pm h
    · obtain ⟨r0, hr0, rfl⟩ := inb_nat hr
      obtain ⟨t0, ht0, rfl⟩ := inb_nat ht
      have hsr := (h1.2 r0 hr0).1
      have hst := (h1.2 t0 ht0).1
      have hlr := (h1.2 r0 hr0).2.1
      have hlt := (h1.2 t0 ht0).2.1
      by_cases hn : n < 0
      · refine x_entry (ls2 := [aR 7 0, aI (nI r0), aI i, aI (nI t0), aI j, aI n]) (Nat.le_of_ble_eq_true rfl) pl_8 rfl (Nat.le_of_ble_eq_true rfl) ?_
        try simp (disch := omega) only [no0, no1, nz1, nz2, nz3, nz4, nz5, nz7, nz8, Classical.not_not, bz0, bz1, wi_nil, ld_0, ld_s, isIv_I, isLv_L, isRv_R, true_and, and_true, lset_0, lset_1, lset_s, avw_I, avw_L, avw_R, clr_cons, clr_nil, kst_0, kst_1, kstL_0, kstL_1, addk_I, pA_0, pA_s, pD_0, pD_s, wid_nil, wid_cons, rcv_c, putv_I, putv_L, List.length_cons, List.length_nil, List.set_cons_zero, List.set_cons_succ, not_false_eq_true, Nat.reduceMod, Nat.reduceDiv, Nat.reduceEqDiff, Nat.reduceLT, Nat.reduceLeDiff, Nat.reduceAdd, Nat.reduceSub, reduceIte, Nat.lt_irrefl, Nat.zero_ne_one, Nat.one_ne_zero, Nat.zero_add, List.nil_append, List.cons_append, Option.toList_some, Option.toList_none, forall_const, false_implies, true_implies, false_or, or_false, true_or, or_true, i_le, i_lt, i_eq, i_eq0, i_lt0, i_0le, i_0lt, i_le0, i_in1, i_cl, nI_add, pk_mul, pk_sub, i_div, i_rem, i_sh1, i_bit, i_or, i_and, i_andn, nt_le, nf_le, nt_lt, nf_lt, nt_eq, nf_eq, not_true_eq_false, and_self, and_false, false_and, eq_self, Bool.toNat_true, Bool.toNat_false, i_bool, i_bool1, Bool.false_eq_true, Bool.true_eq_false, reduceCtorEq, i_neg1, i_neg2, i_neg3, i_neg4, i_neg5, i_neg6, i_neg7, i_neg8, i_neg9, i_nega, i_negb, i_negc, i_max2, i_min2, wi_nil]
        repeat (
          first
          | refine s_X8_copy_0 ?_
          | refine s_X8_copy_4 ?_
          | refine s_X8_copy_11 ?_
          | refine s_X8_copy_14 ?_
          | refine s_X8_copy_16 ?_
          | refine s_X8_copy_26 ?_
          | refine s_X8_copy_27 ?_
          | refine s_X8_copy_35 ?_
          | refine s_X8_copy_46 ?_
          | refine s_X8_copy_49 ?_
          | refine s_X8_copy_54 ?_
          | refine s_X8_copy_55 ?_
          | refine s_X8_copy_66 ?_
          | refine s_X8_copy_81 ?_
          | refine s_X8_copy_84 ?_
          | refine s_X8_copy_89 ?_
          | refine s_X8_copy_90 ?_
          | refine s_X8_copy_104 ?_
          simp (disch := omega) only [B_X8_copy_0, wi_iload_n, wi_invokestatic, B_X8_copy_4, wi_if_eq, B_X8_copy_11, wi_if_ne, B_X8_copy_14, wi_iconst, wi_ireturn, B_X8_copy_16, wi_iload, wi_if_ge, wi_aload_n, wi_invokevirtual, cnt_7, B_X8_copy_26, B_X8_copy_27, wi_getfield, fldv_7_0, fds_7_0, cnt_3, B_X8_copy_35, B_X8_copy_46, B_X8_copy_49, B_X8_copy_54, B_X8_copy_55, B_X8_copy_66, B_X8_copy_81, B_X8_copy_84, B_X8_copy_89, B_X8_copy_90, B_X8_copy_104, no0, no1, nz1, nz2, nz3, nz4, nz5, nz7, nz8, Classical.not_not, bz0, bz1, wi_nil, ld_0, ld_s, isIv_I, isLv_L, isRv_R, true_and, and_true, lset_0, lset_1, lset_s, avw_I, avw_L, avw_R, clr_cons, clr_nil, kst_0, kst_1, kstL_0, kstL_1, addk_I, pA_0, pA_s, pD_0, pD_s, wid_nil, wid_cons, rcv_c, putv_I, putv_L, List.length_cons, List.length_nil, List.set_cons_zero, List.set_cons_succ, not_false_eq_true, Nat.reduceMod, Nat.reduceDiv, Nat.reduceEqDiff, Nat.reduceLT, Nat.reduceLeDiff, Nat.reduceAdd, Nat.reduceSub, reduceIte, Nat.lt_irrefl, Nat.zero_ne_one, Nat.one_ne_zero, Nat.zero_add, List.nil_append, List.cons_append, Option.toList_some, Option.toList_none, forall_const, false_implies, true_implies, false_or, or_false, true_or, or_true, i_le, i_lt, i_eq, i_eq0, i_lt0, i_0le, i_0lt, i_le0, i_in1, i_cl, nI_add, pk_mul, pk_sub, i_div, i_rem, i_sh1, i_bit, i_or, i_and, i_andn, nt_le, nf_le, nt_lt, nf_lt, nt_eq, nf_eq, not_true_eq_false, and_self, and_false, false_and, eq_self, Bool.toNat_true, Bool.toNat_false, i_bool, i_bool1, Bool.false_eq_true, Bool.true_eq_false, reduceCtorEq, i_neg1, i_neg2, i_neg3, i_neg4, i_neg5, i_neg6, i_neg7, i_neg8, i_neg9, i_nega, i_negb, i_negc, i_max2, i_min2])
        refine c_isRow ?_
        try simp (disch := omega) only [no0, no1, nz1, nz2, nz3, nz4, nz5, nz7, nz8, Classical.not_not, bz0, bz1, wi_nil, ld_0, ld_s, isIv_I, isLv_L, isRv_R, true_and, and_true, lset_0, lset_1, lset_s, avw_I, avw_L, avw_R, clr_cons, clr_nil, kst_0, kst_1, kstL_0, kstL_1, addk_I, pA_0, pA_s, pD_0, pD_s, wid_nil, wid_cons, rcv_c, putv_I, putv_L, List.length_cons, List.length_nil, List.set_cons_zero, List.set_cons_succ, not_false_eq_true, Nat.reduceMod, Nat.reduceDiv, Nat.reduceEqDiff, Nat.reduceLT, Nat.reduceLeDiff, Nat.reduceAdd, Nat.reduceSub, reduceIte, Nat.lt_irrefl, Nat.zero_ne_one, Nat.one_ne_zero, Nat.zero_add, List.nil_append, List.cons_append, Option.toList_some, Option.toList_none, forall_const, false_implies, true_implies, false_or, or_false, true_or, or_true, i_le, i_lt, i_eq, i_eq0, i_lt0, i_0le, i_0lt, i_le0, i_in1, i_cl, nI_add, pk_mul, pk_sub, i_div, i_rem, i_sh1, i_bit, i_or, i_and, i_andn, nt_le, nf_le, nt_lt, nf_lt, nt_eq, nf_eq, not_true_eq_false, and_self, and_false, false_and, eq_self, Bool.toNat_true, Bool.toNat_false, i_bool, i_bool1, Bool.false_eq_true, Bool.true_eq_false, reduceCtorEq, i_neg1, i_neg2, i_neg3, i_neg4, i_neg5, i_neg6, i_neg7, i_neg8, i_neg9, i_nega, i_negb, i_negc, i_max2, i_min2, hr, wi_nil]
        repeat (
          first
          | refine s_X8_copy_0 ?_
          | refine s_X8_copy_4 ?_
          | refine s_X8_copy_11 ?_
          | refine s_X8_copy_14 ?_
          | refine s_X8_copy_16 ?_
          | refine s_X8_copy_26 ?_
          | refine s_X8_copy_27 ?_
          | refine s_X8_copy_35 ?_
          | refine s_X8_copy_46 ?_
          | refine s_X8_copy_49 ?_
          | refine s_X8_copy_54 ?_
          | refine s_X8_copy_55 ?_
          | refine s_X8_copy_66 ?_
          | refine s_X8_copy_81 ?_
          | refine s_X8_copy_84 ?_
          | refine s_X8_copy_89 ?_
          | refine s_X8_copy_90 ?_
          | refine s_X8_copy_104 ?_
          simp (disch := omega) only [B_X8_copy_0, wi_iload_n, wi_invokestatic, B_X8_copy_4, wi_if_eq, B_X8_copy_11, wi_if_ne, B_X8_copy_14, wi_iconst, wi_ireturn, B_X8_copy_16, wi_iload, wi_if_ge, wi_aload_n, wi_invokevirtual, cnt_7, B_X8_copy_26, B_X8_copy_27, wi_getfield, fldv_7_0, fds_7_0, cnt_3, B_X8_copy_35, B_X8_copy_46, B_X8_copy_49, B_X8_copy_54, B_X8_copy_55, B_X8_copy_66, B_X8_copy_81, B_X8_copy_84, B_X8_copy_89, B_X8_copy_90, B_X8_copy_104, no0, no1, nz1, nz2, nz3, nz4, nz5, nz7, nz8, Classical.not_not, bz0, bz1, wi_nil, ld_0, ld_s, isIv_I, isLv_L, isRv_R, true_and, and_true, lset_0, lset_1, lset_s, avw_I, avw_L, avw_R, clr_cons, clr_nil, kst_0, kst_1, kstL_0, kstL_1, addk_I, pA_0, pA_s, pD_0, pD_s, wid_nil, wid_cons, rcv_c, putv_I, putv_L, List.length_cons, List.length_nil, List.set_cons_zero, List.set_cons_succ, not_false_eq_true, Nat.reduceMod, Nat.reduceDiv, Nat.reduceEqDiff, Nat.reduceLT, Nat.reduceLeDiff, Nat.reduceAdd, Nat.reduceSub, reduceIte, Nat.lt_irrefl, Nat.zero_ne_one, Nat.one_ne_zero, Nat.zero_add, List.nil_append, List.cons_append, Option.toList_some, Option.toList_none, forall_const, false_implies, true_implies, false_or, or_false, true_or, or_true, i_le, i_lt, i_eq, i_eq0, i_lt0, i_0le, i_0lt, i_le0, i_in1, i_cl, nI_add, pk_mul, pk_sub, i_div, i_rem, i_sh1, i_bit, i_or, i_and, i_andn, nt_le, nf_le, nt_lt, nf_lt, nt_eq, nf_eq, not_true_eq_false, and_self, and_false, false_and, eq_self, Bool.toNat_true, Bool.toNat_false, i_bool, i_bool1, Bool.false_eq_true, Bool.true_eq_false, reduceCtorEq, i_neg1, i_neg2, i_neg3, i_neg4, i_neg5, i_neg6, i_neg7, i_neg8, i_neg9, i_nega, i_negb, i_negc, i_max2, i_min2, hr])
        refine c_isRow ?_
        try simp (disch := omega) only [no0, no1, nz1, nz2, nz3, nz4, nz5, nz7, nz8, Classical.not_not, bz0, bz1, wi_nil, ld_0, ld_s, isIv_I, isLv_L, isRv_R, true_and, and_true, lset_0, lset_1, lset_s, avw_I, avw_L, avw_R, clr_cons, clr_nil, kst_0, kst_1, kstL_0, kstL_1, addk_I, pA_0, pA_s, pD_0, pD_s, wid_nil, wid_cons, rcv_c, putv_I, putv_L, List.length_cons, List.length_nil, List.set_cons_zero, List.set_cons_succ, not_false_eq_true, Nat.reduceMod, Nat.reduceDiv, Nat.reduceEqDiff, Nat.reduceLT, Nat.reduceLeDiff, Nat.reduceAdd, Nat.reduceSub, reduceIte, Nat.lt_irrefl, Nat.zero_ne_one, Nat.one_ne_zero, Nat.zero_add, List.nil_append, List.cons_append, Option.toList_some, Option.toList_none, forall_const, false_implies, true_implies, false_or, or_false, true_or, or_true, i_le, i_lt, i_eq, i_eq0, i_lt0, i_0le, i_0lt, i_le0, i_in1, i_cl, nI_add, pk_mul, pk_sub, i_div, i_rem, i_sh1, i_bit, i_or, i_and, i_andn, nt_le, nf_le, nt_lt, nf_lt, nt_eq, nf_eq, not_true_eq_false, and_self, and_false, false_and, eq_self, Bool.toNat_true, Bool.toNat_false, i_bool, i_bool1, Bool.false_eq_true, Bool.true_eq_false, reduceCtorEq, i_neg1, i_neg2, i_neg3, i_neg4, i_neg5, i_neg6, i_neg7, i_neg8, i_neg9, i_nega, i_negb, i_negc, i_max2, i_min2, ht, (ng_0le hn), wi_nil]
        repeat (
          first
          | refine s_X8_copy_0 ?_
          | refine s_X8_copy_4 ?_
          | refine s_X8_copy_11 ?_
          | refine s_X8_copy_14 ?_
          | refine s_X8_copy_16 ?_
          | refine s_X8_copy_26 ?_
          | refine s_X8_copy_27 ?_
          | refine s_X8_copy_35 ?_
          | refine s_X8_copy_46 ?_
          | refine s_X8_copy_49 ?_
          | refine s_X8_copy_54 ?_
          | refine s_X8_copy_55 ?_
          | refine s_X8_copy_66 ?_
          | refine s_X8_copy_81 ?_
          | refine s_X8_copy_84 ?_
          | refine s_X8_copy_89 ?_
          | refine s_X8_copy_90 ?_
          | refine s_X8_copy_104 ?_
          simp (disch := omega) only [B_X8_copy_0, wi_iload_n, wi_invokestatic, B_X8_copy_4, wi_if_eq, B_X8_copy_11, wi_if_ne, B_X8_copy_14, wi_iconst, wi_ireturn, B_X8_copy_16, wi_iload, wi_if_ge, wi_aload_n, wi_invokevirtual, cnt_7, B_X8_copy_26, B_X8_copy_27, wi_getfield, fldv_7_0, fds_7_0, cnt_3, B_X8_copy_35, B_X8_copy_46, B_X8_copy_49, B_X8_copy_54, B_X8_copy_55, B_X8_copy_66, B_X8_copy_81, B_X8_copy_84, B_X8_copy_89, B_X8_copy_90, B_X8_copy_104, no0, no1, nz1, nz2, nz3, nz4, nz5, nz7, nz8, Classical.not_not, bz0, bz1, wi_nil, ld_0, ld_s, isIv_I, isLv_L, isRv_R, true_and, and_true, lset_0, lset_1, lset_s, avw_I, avw_L, avw_R, clr_cons, clr_nil, kst_0, kst_1, kstL_0, kstL_1, addk_I, pA_0, pA_s, pD_0, pD_s, wid_nil, wid_cons, rcv_c, putv_I, putv_L, List.length_cons, List.length_nil, List.set_cons_zero, List.set_cons_succ, not_false_eq_true, Nat.reduceMod, Nat.reduceDiv, Nat.reduceEqDiff, Nat.reduceLT, Nat.reduceLeDiff, Nat.reduceAdd, Nat.reduceSub, reduceIte, Nat.lt_irrefl, Nat.zero_ne_one, Nat.one_ne_zero, Nat.zero_add, List.nil_append, List.cons_append, Option.toList_some, Option.toList_none, forall_const, false_implies, true_implies, false_or, or_false, true_or, or_true, i_le, i_lt, i_eq, i_eq0, i_lt0, i_0le, i_0lt, i_le0, i_in1, i_cl, nI_add, pk_mul, pk_sub, i_div, i_rem, i_sh1, i_bit, i_or, i_and, i_andn, nt_le, nf_le, nt_lt, nf_lt, nt_eq, nf_eq, not_true_eq_false, and_self, and_false, false_and, eq_self, Bool.toNat_true, Bool.toNat_false, i_bool, i_bool1, Bool.false_eq_true, Bool.true_eq_false, reduceCtorEq, i_neg1, i_neg2, i_neg3, i_neg4, i_neg5, i_neg6, i_neg7, i_neg8, i_neg9, i_nega, i_negb, i_negc, i_max2, i_min2, ht, (ng_0le hn)])
        refine c_refuse (by decide) ?_
        try simp (disch := omega) only [no0, no1, nz1, nz2, nz3, nz4, nz5, nz7, nz8, Classical.not_not, bz0, bz1, wi_nil, ld_0, ld_s, isIv_I, isLv_L, isRv_R, true_and, and_true, lset_0, lset_1, lset_s, avw_I, avw_L, avw_R, clr_cons, clr_nil, kst_0, kst_1, kstL_0, kstL_1, addk_I, pA_0, pA_s, pD_0, pD_s, wid_nil, wid_cons, rcv_c, putv_I, putv_L, List.length_cons, List.length_nil, List.set_cons_zero, List.set_cons_succ, not_false_eq_true, Nat.reduceMod, Nat.reduceDiv, Nat.reduceEqDiff, Nat.reduceLT, Nat.reduceLeDiff, Nat.reduceAdd, Nat.reduceSub, reduceIte, Nat.lt_irrefl, Nat.zero_ne_one, Nat.one_ne_zero, Nat.zero_add, List.nil_append, List.cons_append, Option.toList_some, Option.toList_none, forall_const, false_implies, true_implies, false_or, or_false, true_or, or_true, i_le, i_lt, i_eq, i_eq0, i_lt0, i_0le, i_0lt, i_le0, i_in1, i_cl, nI_add, pk_mul, pk_sub, i_div, i_rem, i_sh1, i_bit, i_or, i_and, i_andn, nt_le, nf_le, nt_lt, nf_lt, nt_eq, nf_eq, not_true_eq_false, and_self, and_false, false_and, eq_self, Bool.toNat_true, Bool.toNat_false, i_bool, i_bool1, Bool.false_eq_true, Bool.true_eq_false, reduceCtorEq, i_neg1, i_neg2, i_neg3, i_neg4, i_neg5, i_neg6, i_neg7, i_neg8, i_neg9, i_nega, i_negb, i_negc, i_max2, i_min2, wi_nil]
        repeat (
          first
          | refine s_X8_copy_0 ?_
          | refine s_X8_copy_4 ?_
          | refine s_X8_copy_11 ?_
          | refine s_X8_copy_14 ?_
          | refine s_X8_copy_16 ?_
          | refine s_X8_copy_26 ?_
          | refine s_X8_copy_27 ?_
          | refine s_X8_copy_35 ?_
          | refine s_X8_copy_46 ?_
          | refine s_X8_copy_49 ?_
          | refine s_X8_copy_54 ?_
          | refine s_X8_copy_55 ?_
          | refine s_X8_copy_66 ?_
          | refine s_X8_copy_81 ?_
          | refine s_X8_copy_84 ?_
          | refine s_X8_copy_89 ?_
          | refine s_X8_copy_90 ?_
          | refine s_X8_copy_104 ?_
          simp (disch := omega) only [B_X8_copy_0, wi_iload_n, wi_invokestatic, B_X8_copy_4, wi_if_eq, B_X8_copy_11, wi_if_ne, B_X8_copy_14, wi_iconst, wi_ireturn, B_X8_copy_16, wi_iload, wi_if_ge, wi_aload_n, wi_invokevirtual, cnt_7, B_X8_copy_26, B_X8_copy_27, wi_getfield, fldv_7_0, fds_7_0, cnt_3, B_X8_copy_35, B_X8_copy_46, B_X8_copy_49, B_X8_copy_54, B_X8_copy_55, B_X8_copy_66, B_X8_copy_81, B_X8_copy_84, B_X8_copy_89, B_X8_copy_90, B_X8_copy_104, no0, no1, nz1, nz2, nz3, nz4, nz5, nz7, nz8, Classical.not_not, bz0, bz1, wi_nil, ld_0, ld_s, isIv_I, isLv_L, isRv_R, true_and, and_true, lset_0, lset_1, lset_s, avw_I, avw_L, avw_R, clr_cons, clr_nil, kst_0, kst_1, kstL_0, kstL_1, addk_I, pA_0, pA_s, pD_0, pD_s, wid_nil, wid_cons, rcv_c, putv_I, putv_L, List.length_cons, List.length_nil, List.set_cons_zero, List.set_cons_succ, not_false_eq_true, Nat.reduceMod, Nat.reduceDiv, Nat.reduceEqDiff, Nat.reduceLT, Nat.reduceLeDiff, Nat.reduceAdd, Nat.reduceSub, reduceIte, Nat.lt_irrefl, Nat.zero_ne_one, Nat.one_ne_zero, Nat.zero_add, List.nil_append, List.cons_append, Option.toList_some, Option.toList_none, forall_const, false_implies, true_implies, false_or, or_false, true_or, or_true, i_le, i_lt, i_eq, i_eq0, i_lt0, i_0le, i_0lt, i_le0, i_in1, i_cl, nI_add, pk_mul, pk_sub, i_div, i_rem, i_sh1, i_bit, i_or, i_and, i_andn, nt_le, nf_le, nt_lt, nf_lt, nt_eq, nf_eq, not_true_eq_false, and_self, and_false, false_and, eq_self, Bool.toNat_true, Bool.toNat_false, i_bool, i_bool1, Bool.false_eq_true, Bool.true_eq_false, reduceCtorEq, i_neg1, i_neg2, i_neg3, i_neg4, i_neg5, i_neg6, i_neg7, i_neg8, i_neg9, i_nega, i_negb, i_negc, i_max2, i_min2])
        refine px ?_
        refine x_entry (ls2 := [aR 8 0, aI (nI r0), aI i, aI (nI t0), aI j, aI n, aU]) (Nat.le_of_ble_eq_true rfl) pl_9 rfl (Nat.le_of_ble_eq_true rfl) ?_
        try simp (disch := omega) only [no0, no1, nz1, nz2, nz3, nz4, nz5, nz7, nz8, Classical.not_not, bz0, bz1, wi_nil, ld_0, ld_s, isIv_I, isLv_L, isRv_R, true_and, and_true, lset_0, lset_1, lset_s, avw_I, avw_L, avw_R, clr_cons, clr_nil, kst_0, kst_1, kstL_0, kstL_1, addk_I, pA_0, pA_s, pD_0, pD_s, wid_nil, wid_cons, rcv_c, putv_I, putv_L, List.length_cons, List.length_nil, List.set_cons_zero, List.set_cons_succ, not_false_eq_true, Nat.reduceMod, Nat.reduceDiv, Nat.reduceEqDiff, Nat.reduceLT, Nat.reduceLeDiff, Nat.reduceAdd, Nat.reduceSub, reduceIte, Nat.lt_irrefl, Nat.zero_ne_one, Nat.one_ne_zero, Nat.zero_add, List.nil_append, List.cons_append, Option.toList_some, Option.toList_none, forall_const, false_implies, true_implies, false_or, or_false, true_or, or_true, i_le, i_lt, i_eq, i_eq0, i_lt0, i_0le, i_0lt, i_le0, i_in1, i_cl, nI_add, pk_mul, pk_sub, i_div, i_rem, i_sh1, i_bit, i_or, i_and, i_andn, nt_le, nf_le, nt_lt, nf_lt, nt_eq, nf_eq, not_true_eq_false, and_self, and_false, false_and, eq_self, Bool.toNat_true, Bool.toNat_false, i_bool, i_bool1, Bool.false_eq_true, Bool.true_eq_false, reduceCtorEq, i_neg1, i_neg2, i_neg3, i_neg4, i_neg5, i_neg6, i_neg7, i_neg8, i_neg9, i_nega, i_negb, i_negc, i_max2, i_min2, wi_nil]
        repeat (
          first
          | refine s_X9_copy_0 ?_
          | refine s_X9_copy_4 ?_
          | refine s_X9_copy_11 ?_
          | refine s_X9_copy_14 ?_
          | refine s_X9_copy_16 ?_
          | refine s_X9_copy_26 ?_
          | refine s_X9_copy_27 ?_
          | refine s_X9_copy_45 ?_
          | refine s_X9_copy_50 ?_
          | refine s_X9_copy_51 ?_
          | refine s_X9_copy_95 ?_
          | refine s_X9_copy_100 ?_
          | refine s_X9_copy_101 ?_
          | refine s_X9_copy_126 ?_
          | refine s_X9_copy_133 ?_
          | refine s_X9_copy_171 ?_
          simp (disch := omega) only [B_X9_copy_0, wi_iload_n, wi_invokestatic, B_X9_copy_4, wi_if_eq, B_X9_copy_11, wi_if_ne, B_X9_copy_14, wi_iconst, wi_ireturn, B_X9_copy_16, wi_iload, wi_if_ge, wi_aload_n, wi_invokevirtual, cnt_8, B_X9_copy_26, B_X9_copy_27, wi_getfield, fldv_8_5, fds_8_5, wi_iaload, wi_if_lt, cnt_31, aTy_31, aLn_31, arr_31, cnt_32, aTy_32, aLn_32, arr_32, cnt_33, aTy_33, aLn_33, arr_33, B_X9_copy_45, B_X9_copy_50, B_X9_copy_51, wi_i2l, wi_ladd, wi_lcmp, wi_if_gt, wi_if_le, B_X9_copy_95, B_X9_copy_100, B_X9_copy_101, wi_istore, B_X9_copy_104, wi_icmp_ge, fldv_8_7, fds_8_7, wi_iadd, B_X9_copy_126, wi_iastore, wi_iinc, wi_goto, B_X9_copy_133, B_X9_copy_136, fldv_8_6, fds_8_6, wi_bipush, wi_imul, B_X9_copy_171, no0, no1, nz1, nz2, nz3, nz4, nz5, nz7, nz8, Classical.not_not, bz0, bz1, wi_nil, ld_0, ld_s, isIv_I, isLv_L, isRv_R, true_and, and_true, lset_0, lset_1, lset_s, avw_I, avw_L, avw_R, clr_cons, clr_nil, kst_0, kst_1, kstL_0, kstL_1, addk_I, pA_0, pA_s, pD_0, pD_s, wid_nil, wid_cons, rcv_c, putv_I, putv_L, List.length_cons, List.length_nil, List.set_cons_zero, List.set_cons_succ, not_false_eq_true, Nat.reduceMod, Nat.reduceDiv, Nat.reduceEqDiff, Nat.reduceLT, Nat.reduceLeDiff, Nat.reduceAdd, Nat.reduceSub, reduceIte, Nat.lt_irrefl, Nat.zero_ne_one, Nat.one_ne_zero, Nat.zero_add, List.nil_append, List.cons_append, Option.toList_some, Option.toList_none, forall_const, false_implies, true_implies, false_or, or_false, true_or, or_true, i_le, i_lt, i_eq, i_eq0, i_lt0, i_0le, i_0lt, i_le0, i_in1, i_cl, nI_add, pk_mul, pk_sub, i_div, i_rem, i_sh1, i_bit, i_or, i_and, i_andn, nt_le, nf_le, nt_lt, nf_lt, nt_eq, nf_eq, not_true_eq_false, and_self, and_false, false_and, eq_self, Bool.toNat_true, Bool.toNat_false, i_bool, i_bool1, Bool.false_eq_true, Bool.true_eq_false, reduceCtorEq, i_neg1, i_neg2, i_neg3, i_neg4, i_neg5, i_neg6, i_neg7, i_neg8, i_neg9, i_nega, i_negb, i_negc, i_max2, i_min2])
        refine c_mRow ?_
        try simp (disch := omega) only [no0, no1, nz1, nz2, nz3, nz4, nz5, nz7, nz8, Classical.not_not, bz0, bz1, wi_nil, ld_0, ld_s, isIv_I, isLv_L, isRv_R, true_and, and_true, lset_0, lset_1, lset_s, avw_I, avw_L, avw_R, clr_cons, clr_nil, kst_0, kst_1, kstL_0, kstL_1, addk_I, pA_0, pA_s, pD_0, pD_s, wid_nil, wid_cons, rcv_c, putv_I, putv_L, List.length_cons, List.length_nil, List.set_cons_zero, List.set_cons_succ, not_false_eq_true, Nat.reduceMod, Nat.reduceDiv, Nat.reduceEqDiff, Nat.reduceLT, Nat.reduceLeDiff, Nat.reduceAdd, Nat.reduceSub, reduceIte, Nat.lt_irrefl, Nat.zero_ne_one, Nat.one_ne_zero, Nat.zero_add, List.nil_append, List.cons_append, Option.toList_some, Option.toList_none, forall_const, false_implies, true_implies, false_or, or_false, true_or, or_true, i_le, i_lt, i_eq, i_eq0, i_lt0, i_0le, i_0lt, i_le0, i_in1, i_cl, nI_add, pk_mul, pk_sub, i_div, i_rem, i_sh1, i_bit, i_or, i_and, i_andn, nt_le, nf_le, nt_lt, nf_lt, nt_eq, nf_eq, not_true_eq_false, and_self, and_false, false_and, eq_self, Bool.toNat_true, Bool.toNat_false, i_bool, i_bool1, Bool.false_eq_true, Bool.true_eq_false, reduceCtorEq, i_neg1, i_neg2, i_neg3, i_neg4, i_neg5, i_neg6, i_neg7, i_neg8, i_neg9, i_nega, i_negb, i_negc, i_max2, i_min2, hr, wi_nil]
        repeat (
          first
          | refine s_X9_copy_0 ?_
          | refine s_X9_copy_4 ?_
          | refine s_X9_copy_11 ?_
          | refine s_X9_copy_14 ?_
          | refine s_X9_copy_16 ?_
          | refine s_X9_copy_26 ?_
          | refine s_X9_copy_27 ?_
          | refine s_X9_copy_45 ?_
          | refine s_X9_copy_50 ?_
          | refine s_X9_copy_51 ?_
          | refine s_X9_copy_95 ?_
          | refine s_X9_copy_100 ?_
          | refine s_X9_copy_101 ?_
          | refine s_X9_copy_126 ?_
          | refine s_X9_copy_133 ?_
          | refine s_X9_copy_171 ?_
          simp (disch := omega) only [B_X9_copy_0, wi_iload_n, wi_invokestatic, B_X9_copy_4, wi_if_eq, B_X9_copy_11, wi_if_ne, B_X9_copy_14, wi_iconst, wi_ireturn, B_X9_copy_16, wi_iload, wi_if_ge, wi_aload_n, wi_invokevirtual, cnt_8, B_X9_copy_26, B_X9_copy_27, wi_getfield, fldv_8_5, fds_8_5, wi_iaload, wi_if_lt, cnt_31, aTy_31, aLn_31, arr_31, cnt_32, aTy_32, aLn_32, arr_32, cnt_33, aTy_33, aLn_33, arr_33, B_X9_copy_45, B_X9_copy_50, B_X9_copy_51, wi_i2l, wi_ladd, wi_lcmp, wi_if_gt, wi_if_le, B_X9_copy_95, B_X9_copy_100, B_X9_copy_101, wi_istore, B_X9_copy_104, wi_icmp_ge, fldv_8_7, fds_8_7, wi_iadd, B_X9_copy_126, wi_iastore, wi_iinc, wi_goto, B_X9_copy_133, B_X9_copy_136, fldv_8_6, fds_8_6, wi_bipush, wi_imul, B_X9_copy_171, no0, no1, nz1, nz2, nz3, nz4, nz5, nz7, nz8, Classical.not_not, bz0, bz1, wi_nil, ld_0, ld_s, isIv_I, isLv_L, isRv_R, true_and, and_true, lset_0, lset_1, lset_s, avw_I, avw_L, avw_R, clr_cons, clr_nil, kst_0, kst_1, kstL_0, kstL_1, addk_I, pA_0, pA_s, pD_0, pD_s, wid_nil, wid_cons, rcv_c, putv_I, putv_L, List.length_cons, List.length_nil, List.set_cons_zero, List.set_cons_succ, not_false_eq_true, Nat.reduceMod, Nat.reduceDiv, Nat.reduceEqDiff, Nat.reduceLT, Nat.reduceLeDiff, Nat.reduceAdd, Nat.reduceSub, reduceIte, Nat.lt_irrefl, Nat.zero_ne_one, Nat.one_ne_zero, Nat.zero_add, List.nil_append, List.cons_append, Option.toList_some, Option.toList_none, forall_const, false_implies, true_implies, false_or, or_false, true_or, or_true, i_le, i_lt, i_eq, i_eq0, i_lt0, i_0le, i_0lt, i_le0, i_in1, i_cl, nI_add, pk_mul, pk_sub, i_div, i_rem, i_sh1, i_bit, i_or, i_and, i_andn, nt_le, nf_le, nt_lt, nf_lt, nt_eq, nf_eq, not_true_eq_false, and_self, and_false, false_and, eq_self, Bool.toNat_true, Bool.toNat_false, i_bool, i_bool1, Bool.false_eq_true, Bool.true_eq_false, reduceCtorEq, i_neg1, i_neg2, i_neg3, i_neg4, i_neg5, i_neg6, i_neg7, i_neg8, i_neg9, i_nega, i_negb, i_negc, i_max2, i_min2, hr])
        refine c_mRow ?_
        try simp (disch := omega) only [no0, no1, nz1, nz2, nz3, nz4, nz5, nz7, nz8, Classical.not_not, bz0, bz1, wi_nil, ld_0, ld_s, isIv_I, isLv_L, isRv_R, true_and, and_true, lset_0, lset_1, lset_s, avw_I, avw_L, avw_R, clr_cons, clr_nil, kst_0, kst_1, kstL_0, kstL_1, addk_I, pA_0, pA_s, pD_0, pD_s, wid_nil, wid_cons, rcv_c, putv_I, putv_L, List.length_cons, List.length_nil, List.set_cons_zero, List.set_cons_succ, not_false_eq_true, Nat.reduceMod, Nat.reduceDiv, Nat.reduceEqDiff, Nat.reduceLT, Nat.reduceLeDiff, Nat.reduceAdd, Nat.reduceSub, reduceIte, Nat.lt_irrefl, Nat.zero_ne_one, Nat.one_ne_zero, Nat.zero_add, List.nil_append, List.cons_append, Option.toList_some, Option.toList_none, forall_const, false_implies, true_implies, false_or, or_false, true_or, or_true, i_le, i_lt, i_eq, i_eq0, i_lt0, i_0le, i_0lt, i_le0, i_in1, i_cl, nI_add, pk_mul, pk_sub, i_div, i_rem, i_sh1, i_bit, i_or, i_and, i_andn, nt_le, nf_le, nt_lt, nf_lt, nt_eq, nf_eq, not_true_eq_false, and_self, and_false, false_and, eq_self, Bool.toNat_true, Bool.toNat_false, i_bool, i_bool1, Bool.false_eq_true, Bool.true_eq_false, reduceCtorEq, i_neg1, i_neg2, i_neg3, i_neg4, i_neg5, i_neg6, i_neg7, i_neg8, i_neg9, i_nega, i_negb, i_negc, i_max2, i_min2, ht, (ng_0le hn), wi_nil]
        repeat (
          first
          | refine s_X9_copy_0 ?_
          | refine s_X9_copy_4 ?_
          | refine s_X9_copy_11 ?_
          | refine s_X9_copy_14 ?_
          | refine s_X9_copy_16 ?_
          | refine s_X9_copy_26 ?_
          | refine s_X9_copy_27 ?_
          | refine s_X9_copy_45 ?_
          | refine s_X9_copy_50 ?_
          | refine s_X9_copy_51 ?_
          | refine s_X9_copy_95 ?_
          | refine s_X9_copy_100 ?_
          | refine s_X9_copy_101 ?_
          | refine s_X9_copy_126 ?_
          | refine s_X9_copy_133 ?_
          | refine s_X9_copy_171 ?_
          simp (disch := omega) only [B_X9_copy_0, wi_iload_n, wi_invokestatic, B_X9_copy_4, wi_if_eq, B_X9_copy_11, wi_if_ne, B_X9_copy_14, wi_iconst, wi_ireturn, B_X9_copy_16, wi_iload, wi_if_ge, wi_aload_n, wi_invokevirtual, cnt_8, B_X9_copy_26, B_X9_copy_27, wi_getfield, fldv_8_5, fds_8_5, wi_iaload, wi_if_lt, cnt_31, aTy_31, aLn_31, arr_31, cnt_32, aTy_32, aLn_32, arr_32, cnt_33, aTy_33, aLn_33, arr_33, B_X9_copy_45, B_X9_copy_50, B_X9_copy_51, wi_i2l, wi_ladd, wi_lcmp, wi_if_gt, wi_if_le, B_X9_copy_95, B_X9_copy_100, B_X9_copy_101, wi_istore, B_X9_copy_104, wi_icmp_ge, fldv_8_7, fds_8_7, wi_iadd, B_X9_copy_126, wi_iastore, wi_iinc, wi_goto, B_X9_copy_133, B_X9_copy_136, fldv_8_6, fds_8_6, wi_bipush, wi_imul, B_X9_copy_171, no0, no1, nz1, nz2, nz3, nz4, nz5, nz7, nz8, Classical.not_not, bz0, bz1, wi_nil, ld_0, ld_s, isIv_I, isLv_L, isRv_R, true_and, and_true, lset_0, lset_1, lset_s, avw_I, avw_L, avw_R, clr_cons, clr_nil, kst_0, kst_1, kstL_0, kstL_1, addk_I, pA_0, pA_s, pD_0, pD_s, wid_nil, wid_cons, rcv_c, putv_I, putv_L, List.length_cons, List.length_nil, List.set_cons_zero, List.set_cons_succ, not_false_eq_true, Nat.reduceMod, Nat.reduceDiv, Nat.reduceEqDiff, Nat.reduceLT, Nat.reduceLeDiff, Nat.reduceAdd, Nat.reduceSub, reduceIte, Nat.lt_irrefl, Nat.zero_ne_one, Nat.one_ne_zero, Nat.zero_add, List.nil_append, List.cons_append, Option.toList_some, Option.toList_none, forall_const, false_implies, true_implies, false_or, or_false, true_or, or_true, i_le, i_lt, i_eq, i_eq0, i_lt0, i_0le, i_0lt, i_le0, i_in1, i_cl, nI_add, pk_mul, pk_sub, i_div, i_rem, i_sh1, i_bit, i_or, i_and, i_andn, nt_le, nf_le, nt_lt, nf_lt, nt_eq, nf_eq, not_true_eq_false, and_self, and_false, false_and, eq_self, Bool.toNat_true, Bool.toNat_false, i_bool, i_bool1, Bool.false_eq_true, Bool.true_eq_false, reduceCtorEq, i_neg1, i_neg2, i_neg3, i_neg4, i_neg5, i_neg6, i_neg7, i_neg8, i_neg9, i_nega, i_negb, i_negc, i_max2, i_min2, ht, (ng_0le hn)])
        refine c_meets (by decide) ?_
        try simp (disch := omega) only [no0, no1, nz1, nz2, nz3, nz4, nz5, nz7, nz8, Classical.not_not, bz0, bz1, wi_nil, ld_0, ld_s, isIv_I, isLv_L, isRv_R, true_and, and_true, lset_0, lset_1, lset_s, avw_I, avw_L, avw_R, clr_cons, clr_nil, kst_0, kst_1, kstL_0, kstL_1, addk_I, pA_0, pA_s, pD_0, pD_s, wid_nil, wid_cons, rcv_c, putv_I, putv_L, List.length_cons, List.length_nil, List.set_cons_zero, List.set_cons_succ, not_false_eq_true, Nat.reduceMod, Nat.reduceDiv, Nat.reduceEqDiff, Nat.reduceLT, Nat.reduceLeDiff, Nat.reduceAdd, Nat.reduceSub, reduceIte, Nat.lt_irrefl, Nat.zero_ne_one, Nat.one_ne_zero, Nat.zero_add, List.nil_append, List.cons_append, Option.toList_some, Option.toList_none, forall_const, false_implies, true_implies, false_or, or_false, true_or, or_true, i_le, i_lt, i_eq, i_eq0, i_lt0, i_0le, i_0lt, i_le0, i_in1, i_cl, nI_add, pk_mul, pk_sub, i_div, i_rem, i_sh1, i_bit, i_or, i_and, i_andn, nt_le, nf_le, nt_lt, nf_lt, nt_eq, nf_eq, not_true_eq_false, and_self, and_false, false_and, eq_self, Bool.toNat_true, Bool.toNat_false, i_bool, i_bool1, Bool.false_eq_true, Bool.true_eq_false, reduceCtorEq, i_neg1, i_neg2, i_neg3, i_neg4, i_neg5, i_neg6, i_neg7, i_neg8, i_neg9, i_nega, i_negb, i_negc, i_max2, i_min2, wi_nil]
        repeat (
          first
          | refine s_X9_copy_0 ?_
          | refine s_X9_copy_4 ?_
          | refine s_X9_copy_11 ?_
          | refine s_X9_copy_14 ?_
          | refine s_X9_copy_16 ?_
          | refine s_X9_copy_26 ?_
          | refine s_X9_copy_27 ?_
          | refine s_X9_copy_45 ?_
          | refine s_X9_copy_50 ?_
          | refine s_X9_copy_51 ?_
          | refine s_X9_copy_95 ?_
          | refine s_X9_copy_100 ?_
          | refine s_X9_copy_101 ?_
          | refine s_X9_copy_126 ?_
          | refine s_X9_copy_133 ?_
          | refine s_X9_copy_171 ?_
          simp (disch := omega) only [B_X9_copy_0, wi_iload_n, wi_invokestatic, B_X9_copy_4, wi_if_eq, B_X9_copy_11, wi_if_ne, B_X9_copy_14, wi_iconst, wi_ireturn, B_X9_copy_16, wi_iload, wi_if_ge, wi_aload_n, wi_invokevirtual, cnt_8, B_X9_copy_26, B_X9_copy_27, wi_getfield, fldv_8_5, fds_8_5, wi_iaload, wi_if_lt, cnt_31, aTy_31, aLn_31, arr_31, cnt_32, aTy_32, aLn_32, arr_32, cnt_33, aTy_33, aLn_33, arr_33, B_X9_copy_45, B_X9_copy_50, B_X9_copy_51, wi_i2l, wi_ladd, wi_lcmp, wi_if_gt, wi_if_le, B_X9_copy_95, B_X9_copy_100, B_X9_copy_101, wi_istore, B_X9_copy_104, wi_icmp_ge, fldv_8_7, fds_8_7, wi_iadd, B_X9_copy_126, wi_iastore, wi_iinc, wi_goto, B_X9_copy_133, B_X9_copy_136, fldv_8_6, fds_8_6, wi_bipush, wi_imul, B_X9_copy_171, no0, no1, nz1, nz2, nz3, nz4, nz5, nz7, nz8, Classical.not_not, bz0, bz1, wi_nil, ld_0, ld_s, isIv_I, isLv_L, isRv_R, true_and, and_true, lset_0, lset_1, lset_s, avw_I, avw_L, avw_R, clr_cons, clr_nil, kst_0, kst_1, kstL_0, kstL_1, addk_I, pA_0, pA_s, pD_0, pD_s, wid_nil, wid_cons, rcv_c, putv_I, putv_L, List.length_cons, List.length_nil, List.set_cons_zero, List.set_cons_succ, not_false_eq_true, Nat.reduceMod, Nat.reduceDiv, Nat.reduceEqDiff, Nat.reduceLT, Nat.reduceLeDiff, Nat.reduceAdd, Nat.reduceSub, reduceIte, Nat.lt_irrefl, Nat.zero_ne_one, Nat.one_ne_zero, Nat.zero_add, List.nil_append, List.cons_append, Option.toList_some, Option.toList_none, forall_const, false_implies, true_implies, false_or, or_false, true_or, or_true, i_le, i_lt, i_eq, i_eq0, i_lt0, i_0le, i_0lt, i_le0, i_in1, i_cl, nI_add, pk_mul, pk_sub, i_div, i_rem, i_sh1, i_bit, i_or, i_and, i_andn, nt_le, nf_le, nt_lt, nf_lt, nt_eq, nf_eq, not_true_eq_false, and_self, and_false, false_and, eq_self, Bool.toNat_true, Bool.toNat_false, i_bool, i_bool1, Bool.false_eq_true, Bool.true_eq_false, reduceCtorEq, i_neg1, i_neg2, i_neg3, i_neg4, i_neg5, i_neg6, i_neg7, i_neg8, i_neg9, i_nega, i_negb, i_negc, i_max2, i_min2])
        exact pm (r_ref h (by decide) Fr.refl)
      · have hn0 : 0 ≤ n.toInt := by
          rw [Int32.lt_iff_toInt_lt, Int32.toInt_zero] at hn
          omega
        have hn1 : (0 ≤ n) = True := eq_true (by rw [Int32.le_iff_toInt_le, Int32.toInt_zero]; exact hn0)
        by_cases hz : rs r0 = 0
        · rw [hz, sz_0] at hsr
          refine x_entry (ls2 := [aR 7 0, aI (nI r0), aI i, aI (nI t0), aI j, aI n]) (Nat.le_of_ble_eq_true rfl) pl_8 rfl (Nat.le_of_ble_eq_true rfl) ?_
          try simp (disch := omega) only [no0, no1, nz1, nz2, nz3, nz4, nz5, nz7, nz8, Classical.not_not, bz0, bz1, wi_nil, ld_0, ld_s, isIv_I, isLv_L, isRv_R, true_and, and_true, lset_0, lset_1, lset_s, avw_I, avw_L, avw_R, clr_cons, clr_nil, kst_0, kst_1, kstL_0, kstL_1, addk_I, pA_0, pA_s, pD_0, pD_s, wid_nil, wid_cons, rcv_c, putv_I, putv_L, List.length_cons, List.length_nil, List.set_cons_zero, List.set_cons_succ, not_false_eq_true, Nat.reduceMod, Nat.reduceDiv, Nat.reduceEqDiff, Nat.reduceLT, Nat.reduceLeDiff, Nat.reduceAdd, Nat.reduceSub, reduceIte, Nat.lt_irrefl, Nat.zero_ne_one, Nat.one_ne_zero, Nat.zero_add, List.nil_append, List.cons_append, Option.toList_some, Option.toList_none, forall_const, false_implies, true_implies, false_or, or_false, true_or, or_true, i_le, i_lt, i_eq, i_eq0, i_lt0, i_0le, i_0lt, i_le0, i_in1, i_cl, nI_add, pk_mul, pk_sub, i_div, i_rem, i_sh1, i_bit, i_or, i_and, i_andn, nt_le, nf_le, nt_lt, nf_lt, nt_eq, nf_eq, not_true_eq_false, and_self, and_false, false_and, eq_self, Bool.toNat_true, Bool.toNat_false, i_bool, i_bool1, Bool.false_eq_true, Bool.true_eq_false, reduceCtorEq, i_neg1, i_neg2, i_neg3, i_neg4, i_neg5, i_neg6, i_neg7, i_neg8, i_neg9, i_nega, i_negb, i_negc, i_max2, i_min2, wi_nil]
          repeat (
            first
            | refine s_X8_copy_0 ?_
            | refine s_X8_copy_4 ?_
            | refine s_X8_copy_11 ?_
            | refine s_X8_copy_14 ?_
            | refine s_X8_copy_16 ?_
            | refine s_X8_copy_26 ?_
            | refine s_X8_copy_27 ?_
            | refine s_X8_copy_35 ?_
            | refine s_X8_copy_46 ?_
            | refine s_X8_copy_49 ?_
            | refine s_X8_copy_54 ?_
            | refine s_X8_copy_55 ?_
            | refine s_X8_copy_66 ?_
            | refine s_X8_copy_81 ?_
            | refine s_X8_copy_84 ?_
            | refine s_X8_copy_89 ?_
            | refine s_X8_copy_90 ?_
            | refine s_X8_copy_104 ?_
            simp (disch := omega) only [B_X8_copy_0, wi_iload_n, wi_invokestatic, B_X8_copy_4, wi_if_eq, B_X8_copy_11, wi_if_ne, B_X8_copy_14, wi_iconst, wi_ireturn, B_X8_copy_16, wi_iload, wi_if_ge, wi_aload_n, wi_invokevirtual, cnt_7, B_X8_copy_26, B_X8_copy_27, wi_getfield, fldv_7_0, fds_7_0, cnt_3, B_X8_copy_35, B_X8_copy_46, B_X8_copy_49, B_X8_copy_54, B_X8_copy_55, B_X8_copy_66, B_X8_copy_81, B_X8_copy_84, B_X8_copy_89, B_X8_copy_90, B_X8_copy_104, no0, no1, nz1, nz2, nz3, nz4, nz5, nz7, nz8, Classical.not_not, bz0, bz1, wi_nil, ld_0, ld_s, isIv_I, isLv_L, isRv_R, true_and, and_true, lset_0, lset_1, lset_s, avw_I, avw_L, avw_R, clr_cons, clr_nil, kst_0, kst_1, kstL_0, kstL_1, addk_I, pA_0, pA_s, pD_0, pD_s, wid_nil, wid_cons, rcv_c, putv_I, putv_L, List.length_cons, List.length_nil, List.set_cons_zero, List.set_cons_succ, not_false_eq_true, Nat.reduceMod, Nat.reduceDiv, Nat.reduceEqDiff, Nat.reduceLT, Nat.reduceLeDiff, Nat.reduceAdd, Nat.reduceSub, reduceIte, Nat.lt_irrefl, Nat.zero_ne_one, Nat.one_ne_zero, Nat.zero_add, List.nil_append, List.cons_append, Option.toList_some, Option.toList_none, forall_const, false_implies, true_implies, false_or, or_false, true_or, or_true, i_le, i_lt, i_eq, i_eq0, i_lt0, i_0le, i_0lt, i_le0, i_in1, i_cl, nI_add, pk_mul, pk_sub, i_div, i_rem, i_sh1, i_bit, i_or, i_and, i_andn, nt_le, nf_le, nt_lt, nf_lt, nt_eq, nf_eq, not_true_eq_false, and_self, and_false, false_and, eq_self, Bool.toNat_true, Bool.toNat_false, i_bool, i_bool1, Bool.false_eq_true, Bool.true_eq_false, reduceCtorEq, i_neg1, i_neg2, i_neg3, i_neg4, i_neg5, i_neg6, i_neg7, i_neg8, i_neg9, i_nega, i_negb, i_negc, i_max2, i_min2])
          refine c_isRow ?_
          try simp (disch := omega) only [no0, no1, nz1, nz2, nz3, nz4, nz5, nz7, nz8, Classical.not_not, bz0, bz1, wi_nil, ld_0, ld_s, isIv_I, isLv_L, isRv_R, true_and, and_true, lset_0, lset_1, lset_s, avw_I, avw_L, avw_R, clr_cons, clr_nil, kst_0, kst_1, kstL_0, kstL_1, addk_I, pA_0, pA_s, pD_0, pD_s, wid_nil, wid_cons, rcv_c, putv_I, putv_L, List.length_cons, List.length_nil, List.set_cons_zero, List.set_cons_succ, not_false_eq_true, Nat.reduceMod, Nat.reduceDiv, Nat.reduceEqDiff, Nat.reduceLT, Nat.reduceLeDiff, Nat.reduceAdd, Nat.reduceSub, reduceIte, Nat.lt_irrefl, Nat.zero_ne_one, Nat.one_ne_zero, Nat.zero_add, List.nil_append, List.cons_append, Option.toList_some, Option.toList_none, forall_const, false_implies, true_implies, false_or, or_false, true_or, or_true, i_le, i_lt, i_eq, i_eq0, i_lt0, i_0le, i_0lt, i_le0, i_in1, i_cl, nI_add, pk_mul, pk_sub, i_div, i_rem, i_sh1, i_bit, i_or, i_and, i_andn, nt_le, nf_le, nt_lt, nf_lt, nt_eq, nf_eq, not_true_eq_false, and_self, and_false, false_and, eq_self, Bool.toNat_true, Bool.toNat_false, i_bool, i_bool1, Bool.false_eq_true, Bool.true_eq_false, reduceCtorEq, i_neg1, i_neg2, i_neg3, i_neg4, i_neg5, i_neg6, i_neg7, i_neg8, i_neg9, i_nega, i_negb, i_negc, i_max2, i_min2, hr, wi_nil]
          repeat (
            first
            | refine s_X8_copy_0 ?_
            | refine s_X8_copy_4 ?_
            | refine s_X8_copy_11 ?_
            | refine s_X8_copy_14 ?_
            | refine s_X8_copy_16 ?_
            | refine s_X8_copy_26 ?_
            | refine s_X8_copy_27 ?_
            | refine s_X8_copy_35 ?_
            | refine s_X8_copy_46 ?_
            | refine s_X8_copy_49 ?_
            | refine s_X8_copy_54 ?_
            | refine s_X8_copy_55 ?_
            | refine s_X8_copy_66 ?_
            | refine s_X8_copy_81 ?_
            | refine s_X8_copy_84 ?_
            | refine s_X8_copy_89 ?_
            | refine s_X8_copy_90 ?_
            | refine s_X8_copy_104 ?_
            simp (disch := omega) only [B_X8_copy_0, wi_iload_n, wi_invokestatic, B_X8_copy_4, wi_if_eq, B_X8_copy_11, wi_if_ne, B_X8_copy_14, wi_iconst, wi_ireturn, B_X8_copy_16, wi_iload, wi_if_ge, wi_aload_n, wi_invokevirtual, cnt_7, B_X8_copy_26, B_X8_copy_27, wi_getfield, fldv_7_0, fds_7_0, cnt_3, B_X8_copy_35, B_X8_copy_46, B_X8_copy_49, B_X8_copy_54, B_X8_copy_55, B_X8_copy_66, B_X8_copy_81, B_X8_copy_84, B_X8_copy_89, B_X8_copy_90, B_X8_copy_104, no0, no1, nz1, nz2, nz3, nz4, nz5, nz7, nz8, Classical.not_not, bz0, bz1, wi_nil, ld_0, ld_s, isIv_I, isLv_L, isRv_R, true_and, and_true, lset_0, lset_1, lset_s, avw_I, avw_L, avw_R, clr_cons, clr_nil, kst_0, kst_1, kstL_0, kstL_1, addk_I, pA_0, pA_s, pD_0, pD_s, wid_nil, wid_cons, rcv_c, putv_I, putv_L, List.length_cons, List.length_nil, List.set_cons_zero, List.set_cons_succ, not_false_eq_true, Nat.reduceMod, Nat.reduceDiv, Nat.reduceEqDiff, Nat.reduceLT, Nat.reduceLeDiff, Nat.reduceAdd, Nat.reduceSub, reduceIte, Nat.lt_irrefl, Nat.zero_ne_one, Nat.one_ne_zero, Nat.zero_add, List.nil_append, List.cons_append, Option.toList_some, Option.toList_none, forall_const, false_implies, true_implies, false_or, or_false, true_or, or_true, i_le, i_lt, i_eq, i_eq0, i_lt0, i_0le, i_0lt, i_le0, i_in1, i_cl, nI_add, pk_mul, pk_sub, i_div, i_rem, i_sh1, i_bit, i_or, i_and, i_andn, nt_le, nf_le, nt_lt, nf_lt, nt_eq, nf_eq, not_true_eq_false, and_self, and_false, false_and, eq_self, Bool.toNat_true, Bool.toNat_false, i_bool, i_bool1, Bool.false_eq_true, Bool.true_eq_false, reduceCtorEq, i_neg1, i_neg2, i_neg3, i_neg4, i_neg5, i_neg6, i_neg7, i_neg8, i_neg9, i_nega, i_negb, i_negc, i_max2, i_min2, hr])
          refine c_isRow ?_
          try simp (disch := omega) only [no0, no1, nz1, nz2, nz3, nz4, nz5, nz7, nz8, Classical.not_not, bz0, bz1, wi_nil, ld_0, ld_s, isIv_I, isLv_L, isRv_R, true_and, and_true, lset_0, lset_1, lset_s, avw_I, avw_L, avw_R, clr_cons, clr_nil, kst_0, kst_1, kstL_0, kstL_1, addk_I, pA_0, pA_s, pD_0, pD_s, wid_nil, wid_cons, rcv_c, putv_I, putv_L, List.length_cons, List.length_nil, List.set_cons_zero, List.set_cons_succ, not_false_eq_true, Nat.reduceMod, Nat.reduceDiv, Nat.reduceEqDiff, Nat.reduceLT, Nat.reduceLeDiff, Nat.reduceAdd, Nat.reduceSub, reduceIte, Nat.lt_irrefl, Nat.zero_ne_one, Nat.one_ne_zero, Nat.zero_add, List.nil_append, List.cons_append, Option.toList_some, Option.toList_none, forall_const, false_implies, true_implies, false_or, or_false, true_or, or_true, i_le, i_lt, i_eq, i_eq0, i_lt0, i_0le, i_0lt, i_le0, i_in1, i_cl, nI_add, pk_mul, pk_sub, i_div, i_rem, i_sh1, i_bit, i_or, i_and, i_andn, nt_le, nf_le, nt_lt, nf_lt, nt_eq, nf_eq, not_true_eq_false, and_self, and_false, false_and, eq_self, Bool.toNat_true, Bool.toNat_false, i_bool, i_bool1, Bool.false_eq_true, Bool.true_eq_false, reduceCtorEq, i_neg1, i_neg2, i_neg3, i_neg4, i_neg5, i_neg6, i_neg7, i_neg8, i_neg9, i_nega, i_negb, i_negc, i_max2, i_min2, ht, hn1, wi_nil]
          repeat (
            first
            | refine s_X8_copy_0 ?_
            | refine s_X8_copy_4 ?_
            | refine s_X8_copy_11 ?_
            | refine s_X8_copy_14 ?_
            | refine s_X8_copy_16 ?_
            | refine s_X8_copy_26 ?_
            | refine s_X8_copy_27 ?_
            | refine s_X8_copy_35 ?_
            | refine s_X8_copy_46 ?_
            | refine s_X8_copy_49 ?_
            | refine s_X8_copy_54 ?_
            | refine s_X8_copy_55 ?_
            | refine s_X8_copy_66 ?_
            | refine s_X8_copy_81 ?_
            | refine s_X8_copy_84 ?_
            | refine s_X8_copy_89 ?_
            | refine s_X8_copy_90 ?_
            | refine s_X8_copy_104 ?_
            simp (disch := omega) only [B_X8_copy_0, wi_iload_n, wi_invokestatic, B_X8_copy_4, wi_if_eq, B_X8_copy_11, wi_if_ne, B_X8_copy_14, wi_iconst, wi_ireturn, B_X8_copy_16, wi_iload, wi_if_ge, wi_aload_n, wi_invokevirtual, cnt_7, B_X8_copy_26, B_X8_copy_27, wi_getfield, fldv_7_0, fds_7_0, cnt_3, B_X8_copy_35, B_X8_copy_46, B_X8_copy_49, B_X8_copy_54, B_X8_copy_55, B_X8_copy_66, B_X8_copy_81, B_X8_copy_84, B_X8_copy_89, B_X8_copy_90, B_X8_copy_104, no0, no1, nz1, nz2, nz3, nz4, nz5, nz7, nz8, Classical.not_not, bz0, bz1, wi_nil, ld_0, ld_s, isIv_I, isLv_L, isRv_R, true_and, and_true, lset_0, lset_1, lset_s, avw_I, avw_L, avw_R, clr_cons, clr_nil, kst_0, kst_1, kstL_0, kstL_1, addk_I, pA_0, pA_s, pD_0, pD_s, wid_nil, wid_cons, rcv_c, putv_I, putv_L, List.length_cons, List.length_nil, List.set_cons_zero, List.set_cons_succ, not_false_eq_true, Nat.reduceMod, Nat.reduceDiv, Nat.reduceEqDiff, Nat.reduceLT, Nat.reduceLeDiff, Nat.reduceAdd, Nat.reduceSub, reduceIte, Nat.lt_irrefl, Nat.zero_ne_one, Nat.one_ne_zero, Nat.zero_add, List.nil_append, List.cons_append, Option.toList_some, Option.toList_none, forall_const, false_implies, true_implies, false_or, or_false, true_or, or_true, i_le, i_lt, i_eq, i_eq0, i_lt0, i_0le, i_0lt, i_le0, i_in1, i_cl, nI_add, pk_mul, pk_sub, i_div, i_rem, i_sh1, i_bit, i_or, i_and, i_andn, nt_le, nf_le, nt_lt, nf_lt, nt_eq, nf_eq, not_true_eq_false, and_self, and_false, false_and, eq_self, Bool.toNat_true, Bool.toNat_false, i_bool, i_bool1, Bool.false_eq_true, Bool.true_eq_false, reduceCtorEq, i_neg1, i_neg2, i_neg3, i_neg4, i_neg5, i_neg6, i_neg7, i_neg8, i_neg9, i_nega, i_negb, i_negc, i_max2, i_min2, ht, hn1])
          refine c_Rthere h1.1 hr0 ?_
          rw [if_pos hz]
          try simp (disch := omega) only [no0, no1, nz1, nz2, nz3, nz4, nz5, nz7, nz8, Classical.not_not, bz0, bz1, wi_nil, ld_0, ld_s, isIv_I, isLv_L, isRv_R, true_and, and_true, lset_0, lset_1, lset_s, avw_I, avw_L, avw_R, clr_cons, clr_nil, kst_0, kst_1, kstL_0, kstL_1, addk_I, pA_0, pA_s, pD_0, pD_s, wid_nil, wid_cons, rcv_c, putv_I, putv_L, List.length_cons, List.length_nil, List.set_cons_zero, List.set_cons_succ, not_false_eq_true, Nat.reduceMod, Nat.reduceDiv, Nat.reduceEqDiff, Nat.reduceLT, Nat.reduceLeDiff, Nat.reduceAdd, Nat.reduceSub, reduceIte, Nat.lt_irrefl, Nat.zero_ne_one, Nat.one_ne_zero, Nat.zero_add, List.nil_append, List.cons_append, Option.toList_some, Option.toList_none, forall_const, false_implies, true_implies, false_or, or_false, true_or, or_true, i_le, i_lt, i_eq, i_eq0, i_lt0, i_0le, i_0lt, i_le0, i_in1, i_cl, nI_add, pk_mul, pk_sub, i_div, i_rem, i_sh1, i_bit, i_or, i_and, i_andn, nt_le, nf_le, nt_lt, nf_lt, nt_eq, nf_eq, not_true_eq_false, and_self, and_false, false_and, eq_self, Bool.toNat_true, Bool.toNat_false, i_bool, i_bool1, Bool.false_eq_true, Bool.true_eq_false, reduceCtorEq, i_neg1, i_neg2, i_neg3, i_neg4, i_neg5, i_neg6, i_neg7, i_neg8, i_neg9, i_nega, i_negb, i_negc, i_max2, i_min2, wi_nil]
          repeat (
            first
            | refine s_X8_copy_0 ?_
            | refine s_X8_copy_4 ?_
            | refine s_X8_copy_11 ?_
            | refine s_X8_copy_14 ?_
            | refine s_X8_copy_16 ?_
            | refine s_X8_copy_26 ?_
            | refine s_X8_copy_27 ?_
            | refine s_X8_copy_35 ?_
            | refine s_X8_copy_46 ?_
            | refine s_X8_copy_49 ?_
            | refine s_X8_copy_54 ?_
            | refine s_X8_copy_55 ?_
            | refine s_X8_copy_66 ?_
            | refine s_X8_copy_81 ?_
            | refine s_X8_copy_84 ?_
            | refine s_X8_copy_89 ?_
            | refine s_X8_copy_90 ?_
            | refine s_X8_copy_104 ?_
            simp (disch := omega) only [B_X8_copy_0, wi_iload_n, wi_invokestatic, B_X8_copy_4, wi_if_eq, B_X8_copy_11, wi_if_ne, B_X8_copy_14, wi_iconst, wi_ireturn, B_X8_copy_16, wi_iload, wi_if_ge, wi_aload_n, wi_invokevirtual, cnt_7, B_X8_copy_26, B_X8_copy_27, wi_getfield, fldv_7_0, fds_7_0, cnt_3, B_X8_copy_35, B_X8_copy_46, B_X8_copy_49, B_X8_copy_54, B_X8_copy_55, B_X8_copy_66, B_X8_copy_81, B_X8_copy_84, B_X8_copy_89, B_X8_copy_90, B_X8_copy_104, no0, no1, nz1, nz2, nz3, nz4, nz5, nz7, nz8, Classical.not_not, bz0, bz1, wi_nil, ld_0, ld_s, isIv_I, isLv_L, isRv_R, true_and, and_true, lset_0, lset_1, lset_s, avw_I, avw_L, avw_R, clr_cons, clr_nil, kst_0, kst_1, kstL_0, kstL_1, addk_I, pA_0, pA_s, pD_0, pD_s, wid_nil, wid_cons, rcv_c, putv_I, putv_L, List.length_cons, List.length_nil, List.set_cons_zero, List.set_cons_succ, not_false_eq_true, Nat.reduceMod, Nat.reduceDiv, Nat.reduceEqDiff, Nat.reduceLT, Nat.reduceLeDiff, Nat.reduceAdd, Nat.reduceSub, reduceIte, Nat.lt_irrefl, Nat.zero_ne_one, Nat.one_ne_zero, Nat.zero_add, List.nil_append, List.cons_append, Option.toList_some, Option.toList_none, forall_const, false_implies, true_implies, false_or, or_false, true_or, or_true, i_le, i_lt, i_eq, i_eq0, i_lt0, i_0le, i_0lt, i_le0, i_in1, i_cl, nI_add, pk_mul, pk_sub, i_div, i_rem, i_sh1, i_bit, i_or, i_and, i_andn, nt_le, nf_le, nt_lt, nf_lt, nt_eq, nf_eq, not_true_eq_false, and_self, and_false, false_and, eq_self, Bool.toNat_true, Bool.toNat_false, i_bool, i_bool1, Bool.false_eq_true, Bool.true_eq_false, reduceCtorEq, i_neg1, i_neg2, i_neg3, i_neg4, i_neg5, i_neg6, i_neg7, i_neg8, i_neg9, i_nega, i_negb, i_negc, i_max2, i_min2])
          refine c_refuse (by decide) ?_
          try simp (disch := omega) only [no0, no1, nz1, nz2, nz3, nz4, nz5, nz7, nz8, Classical.not_not, bz0, bz1, wi_nil, ld_0, ld_s, isIv_I, isLv_L, isRv_R, true_and, and_true, lset_0, lset_1, lset_s, avw_I, avw_L, avw_R, clr_cons, clr_nil, kst_0, kst_1, kstL_0, kstL_1, addk_I, pA_0, pA_s, pD_0, pD_s, wid_nil, wid_cons, rcv_c, putv_I, putv_L, List.length_cons, List.length_nil, List.set_cons_zero, List.set_cons_succ, not_false_eq_true, Nat.reduceMod, Nat.reduceDiv, Nat.reduceEqDiff, Nat.reduceLT, Nat.reduceLeDiff, Nat.reduceAdd, Nat.reduceSub, reduceIte, Nat.lt_irrefl, Nat.zero_ne_one, Nat.one_ne_zero, Nat.zero_add, List.nil_append, List.cons_append, Option.toList_some, Option.toList_none, forall_const, false_implies, true_implies, false_or, or_false, true_or, or_true, i_le, i_lt, i_eq, i_eq0, i_lt0, i_0le, i_0lt, i_le0, i_in1, i_cl, nI_add, pk_mul, pk_sub, i_div, i_rem, i_sh1, i_bit, i_or, i_and, i_andn, nt_le, nf_le, nt_lt, nf_lt, nt_eq, nf_eq, not_true_eq_false, and_self, and_false, false_and, eq_self, Bool.toNat_true, Bool.toNat_false, i_bool, i_bool1, Bool.false_eq_true, Bool.true_eq_false, reduceCtorEq, i_neg1, i_neg2, i_neg3, i_neg4, i_neg5, i_neg6, i_neg7, i_neg8, i_neg9, i_nega, i_negb, i_negc, i_max2, i_min2, wi_nil]
          repeat (
            first
            | refine s_X8_copy_0 ?_
            | refine s_X8_copy_4 ?_
            | refine s_X8_copy_11 ?_
            | refine s_X8_copy_14 ?_
            | refine s_X8_copy_16 ?_
            | refine s_X8_copy_26 ?_
            | refine s_X8_copy_27 ?_
            | refine s_X8_copy_35 ?_
            | refine s_X8_copy_46 ?_
            | refine s_X8_copy_49 ?_
            | refine s_X8_copy_54 ?_
            | refine s_X8_copy_55 ?_
            | refine s_X8_copy_66 ?_
            | refine s_X8_copy_81 ?_
            | refine s_X8_copy_84 ?_
            | refine s_X8_copy_89 ?_
            | refine s_X8_copy_90 ?_
            | refine s_X8_copy_104 ?_
            simp (disch := omega) only [B_X8_copy_0, wi_iload_n, wi_invokestatic, B_X8_copy_4, wi_if_eq, B_X8_copy_11, wi_if_ne, B_X8_copy_14, wi_iconst, wi_ireturn, B_X8_copy_16, wi_iload, wi_if_ge, wi_aload_n, wi_invokevirtual, cnt_7, B_X8_copy_26, B_X8_copy_27, wi_getfield, fldv_7_0, fds_7_0, cnt_3, B_X8_copy_35, B_X8_copy_46, B_X8_copy_49, B_X8_copy_54, B_X8_copy_55, B_X8_copy_66, B_X8_copy_81, B_X8_copy_84, B_X8_copy_89, B_X8_copy_90, B_X8_copy_104, no0, no1, nz1, nz2, nz3, nz4, nz5, nz7, nz8, Classical.not_not, bz0, bz1, wi_nil, ld_0, ld_s, isIv_I, isLv_L, isRv_R, true_and, and_true, lset_0, lset_1, lset_s, avw_I, avw_L, avw_R, clr_cons, clr_nil, kst_0, kst_1, kstL_0, kstL_1, addk_I, pA_0, pA_s, pD_0, pD_s, wid_nil, wid_cons, rcv_c, putv_I, putv_L, List.length_cons, List.length_nil, List.set_cons_zero, List.set_cons_succ, not_false_eq_true, Nat.reduceMod, Nat.reduceDiv, Nat.reduceEqDiff, Nat.reduceLT, Nat.reduceLeDiff, Nat.reduceAdd, Nat.reduceSub, reduceIte, Nat.lt_irrefl, Nat.zero_ne_one, Nat.one_ne_zero, Nat.zero_add, List.nil_append, List.cons_append, Option.toList_some, Option.toList_none, forall_const, false_implies, true_implies, false_or, or_false, true_or, or_true, i_le, i_lt, i_eq, i_eq0, i_lt0, i_0le, i_0lt, i_le0, i_in1, i_cl, nI_add, pk_mul, pk_sub, i_div, i_rem, i_sh1, i_bit, i_or, i_and, i_andn, nt_le, nf_le, nt_lt, nf_lt, nt_eq, nf_eq, not_true_eq_false, and_self, and_false, false_and, eq_self, Bool.toNat_true, Bool.toNat_false, i_bool, i_bool1, Bool.false_eq_true, Bool.true_eq_false, reduceCtorEq, i_neg1, i_neg2, i_neg3, i_neg4, i_neg5, i_neg6, i_neg7, i_neg8, i_neg9, i_nega, i_negb, i_negc, i_max2, i_min2])
          refine px ?_
          refine x_entry (ls2 := [aR 8 0, aI (nI r0), aI i, aI (nI t0), aI j, aI n, aU]) (Nat.le_of_ble_eq_true rfl) pl_9 rfl (Nat.le_of_ble_eq_true rfl) ?_
          try simp (disch := omega) only [no0, no1, nz1, nz2, nz3, nz4, nz5, nz7, nz8, Classical.not_not, bz0, bz1, wi_nil, ld_0, ld_s, isIv_I, isLv_L, isRv_R, true_and, and_true, lset_0, lset_1, lset_s, avw_I, avw_L, avw_R, clr_cons, clr_nil, kst_0, kst_1, kstL_0, kstL_1, addk_I, pA_0, pA_s, pD_0, pD_s, wid_nil, wid_cons, rcv_c, putv_I, putv_L, List.length_cons, List.length_nil, List.set_cons_zero, List.set_cons_succ, not_false_eq_true, Nat.reduceMod, Nat.reduceDiv, Nat.reduceEqDiff, Nat.reduceLT, Nat.reduceLeDiff, Nat.reduceAdd, Nat.reduceSub, reduceIte, Nat.lt_irrefl, Nat.zero_ne_one, Nat.one_ne_zero, Nat.zero_add, List.nil_append, List.cons_append, Option.toList_some, Option.toList_none, forall_const, false_implies, true_implies, false_or, or_false, true_or, or_true, i_le, i_lt, i_eq, i_eq0, i_lt0, i_0le, i_0lt, i_le0, i_in1, i_cl, nI_add, pk_mul, pk_sub, i_div, i_rem, i_sh1, i_bit, i_or, i_and, i_andn, nt_le, nf_le, nt_lt, nf_lt, nt_eq, nf_eq, not_true_eq_false, and_self, and_false, false_and, eq_self, Bool.toNat_true, Bool.toNat_false, i_bool, i_bool1, Bool.false_eq_true, Bool.true_eq_false, reduceCtorEq, i_neg1, i_neg2, i_neg3, i_neg4, i_neg5, i_neg6, i_neg7, i_neg8, i_neg9, i_nega, i_negb, i_negc, i_max2, i_min2, wi_nil]
          repeat (
            first
            | refine s_X9_copy_0 ?_
            | refine s_X9_copy_4 ?_
            | refine s_X9_copy_11 ?_
            | refine s_X9_copy_14 ?_
            | refine s_X9_copy_16 ?_
            | refine s_X9_copy_26 ?_
            | refine s_X9_copy_27 ?_
            | refine s_X9_copy_45 ?_
            | refine s_X9_copy_50 ?_
            | refine s_X9_copy_51 ?_
            | refine s_X9_copy_95 ?_
            | refine s_X9_copy_100 ?_
            | refine s_X9_copy_101 ?_
            | refine s_X9_copy_126 ?_
            | refine s_X9_copy_133 ?_
            | refine s_X9_copy_171 ?_
            simp (disch := omega) only [B_X9_copy_0, wi_iload_n, wi_invokestatic, B_X9_copy_4, wi_if_eq, B_X9_copy_11, wi_if_ne, B_X9_copy_14, wi_iconst, wi_ireturn, B_X9_copy_16, wi_iload, wi_if_ge, wi_aload_n, wi_invokevirtual, cnt_8, B_X9_copy_26, B_X9_copy_27, wi_getfield, fldv_8_5, fds_8_5, wi_iaload, wi_if_lt, cnt_31, aTy_31, aLn_31, arr_31, cnt_32, aTy_32, aLn_32, arr_32, cnt_33, aTy_33, aLn_33, arr_33, B_X9_copy_45, B_X9_copy_50, B_X9_copy_51, wi_i2l, wi_ladd, wi_lcmp, wi_if_gt, wi_if_le, B_X9_copy_95, B_X9_copy_100, B_X9_copy_101, wi_istore, B_X9_copy_104, wi_icmp_ge, fldv_8_7, fds_8_7, wi_iadd, B_X9_copy_126, wi_iastore, wi_iinc, wi_goto, B_X9_copy_133, B_X9_copy_136, fldv_8_6, fds_8_6, wi_bipush, wi_imul, B_X9_copy_171, no0, no1, nz1, nz2, nz3, nz4, nz5, nz7, nz8, Classical.not_not, bz0, bz1, wi_nil, ld_0, ld_s, isIv_I, isLv_L, isRv_R, true_and, and_true, lset_0, lset_1, lset_s, avw_I, avw_L, avw_R, clr_cons, clr_nil, kst_0, kst_1, kstL_0, kstL_1, addk_I, pA_0, pA_s, pD_0, pD_s, wid_nil, wid_cons, rcv_c, putv_I, putv_L, List.length_cons, List.length_nil, List.set_cons_zero, List.set_cons_succ, not_false_eq_true, Nat.reduceMod, Nat.reduceDiv, Nat.reduceEqDiff, Nat.reduceLT, Nat.reduceLeDiff, Nat.reduceAdd, Nat.reduceSub, reduceIte, Nat.lt_irrefl, Nat.zero_ne_one, Nat.one_ne_zero, Nat.zero_add, List.nil_append, List.cons_append, Option.toList_some, Option.toList_none, forall_const, false_implies, true_implies, false_or, or_false, true_or, or_true, i_le, i_lt, i_eq, i_eq0, i_lt0, i_0le, i_0lt, i_le0, i_in1, i_cl, nI_add, pk_mul, pk_sub, i_div, i_rem, i_sh1, i_bit, i_or, i_and, i_andn, nt_le, nf_le, nt_lt, nf_lt, nt_eq, nf_eq, not_true_eq_false, and_self, and_false, false_and, eq_self, Bool.toNat_true, Bool.toNat_false, i_bool, i_bool1, Bool.false_eq_true, Bool.true_eq_false, reduceCtorEq, i_neg1, i_neg2, i_neg3, i_neg4, i_neg5, i_neg6, i_neg7, i_neg8, i_neg9, i_nega, i_negb, i_negc, i_max2, i_min2])
          refine c_mRow ?_
          try simp (disch := omega) only [no0, no1, nz1, nz2, nz3, nz4, nz5, nz7, nz8, Classical.not_not, bz0, bz1, wi_nil, ld_0, ld_s, isIv_I, isLv_L, isRv_R, true_and, and_true, lset_0, lset_1, lset_s, avw_I, avw_L, avw_R, clr_cons, clr_nil, kst_0, kst_1, kstL_0, kstL_1, addk_I, pA_0, pA_s, pD_0, pD_s, wid_nil, wid_cons, rcv_c, putv_I, putv_L, List.length_cons, List.length_nil, List.set_cons_zero, List.set_cons_succ, not_false_eq_true, Nat.reduceMod, Nat.reduceDiv, Nat.reduceEqDiff, Nat.reduceLT, Nat.reduceLeDiff, Nat.reduceAdd, Nat.reduceSub, reduceIte, Nat.lt_irrefl, Nat.zero_ne_one, Nat.one_ne_zero, Nat.zero_add, List.nil_append, List.cons_append, Option.toList_some, Option.toList_none, forall_const, false_implies, true_implies, false_or, or_false, true_or, or_true, i_le, i_lt, i_eq, i_eq0, i_lt0, i_0le, i_0lt, i_le0, i_in1, i_cl, nI_add, pk_mul, pk_sub, i_div, i_rem, i_sh1, i_bit, i_or, i_and, i_andn, nt_le, nf_le, nt_lt, nf_lt, nt_eq, nf_eq, not_true_eq_false, and_self, and_false, false_and, eq_self, Bool.toNat_true, Bool.toNat_false, i_bool, i_bool1, Bool.false_eq_true, Bool.true_eq_false, reduceCtorEq, i_neg1, i_neg2, i_neg3, i_neg4, i_neg5, i_neg6, i_neg7, i_neg8, i_neg9, i_nega, i_negb, i_negc, i_max2, i_min2, hr, wi_nil]
          repeat (
            first
            | refine s_X9_copy_0 ?_
            | refine s_X9_copy_4 ?_
            | refine s_X9_copy_11 ?_
            | refine s_X9_copy_14 ?_
            | refine s_X9_copy_16 ?_
            | refine s_X9_copy_26 ?_
            | refine s_X9_copy_27 ?_
            | refine s_X9_copy_45 ?_
            | refine s_X9_copy_50 ?_
            | refine s_X9_copy_51 ?_
            | refine s_X9_copy_95 ?_
            | refine s_X9_copy_100 ?_
            | refine s_X9_copy_101 ?_
            | refine s_X9_copy_126 ?_
            | refine s_X9_copy_133 ?_
            | refine s_X9_copy_171 ?_
            simp (disch := omega) only [B_X9_copy_0, wi_iload_n, wi_invokestatic, B_X9_copy_4, wi_if_eq, B_X9_copy_11, wi_if_ne, B_X9_copy_14, wi_iconst, wi_ireturn, B_X9_copy_16, wi_iload, wi_if_ge, wi_aload_n, wi_invokevirtual, cnt_8, B_X9_copy_26, B_X9_copy_27, wi_getfield, fldv_8_5, fds_8_5, wi_iaload, wi_if_lt, cnt_31, aTy_31, aLn_31, arr_31, cnt_32, aTy_32, aLn_32, arr_32, cnt_33, aTy_33, aLn_33, arr_33, B_X9_copy_45, B_X9_copy_50, B_X9_copy_51, wi_i2l, wi_ladd, wi_lcmp, wi_if_gt, wi_if_le, B_X9_copy_95, B_X9_copy_100, B_X9_copy_101, wi_istore, B_X9_copy_104, wi_icmp_ge, fldv_8_7, fds_8_7, wi_iadd, B_X9_copy_126, wi_iastore, wi_iinc, wi_goto, B_X9_copy_133, B_X9_copy_136, fldv_8_6, fds_8_6, wi_bipush, wi_imul, B_X9_copy_171, no0, no1, nz1, nz2, nz3, nz4, nz5, nz7, nz8, Classical.not_not, bz0, bz1, wi_nil, ld_0, ld_s, isIv_I, isLv_L, isRv_R, true_and, and_true, lset_0, lset_1, lset_s, avw_I, avw_L, avw_R, clr_cons, clr_nil, kst_0, kst_1, kstL_0, kstL_1, addk_I, pA_0, pA_s, pD_0, pD_s, wid_nil, wid_cons, rcv_c, putv_I, putv_L, List.length_cons, List.length_nil, List.set_cons_zero, List.set_cons_succ, not_false_eq_true, Nat.reduceMod, Nat.reduceDiv, Nat.reduceEqDiff, Nat.reduceLT, Nat.reduceLeDiff, Nat.reduceAdd, Nat.reduceSub, reduceIte, Nat.lt_irrefl, Nat.zero_ne_one, Nat.one_ne_zero, Nat.zero_add, List.nil_append, List.cons_append, Option.toList_some, Option.toList_none, forall_const, false_implies, true_implies, false_or, or_false, true_or, or_true, i_le, i_lt, i_eq, i_eq0, i_lt0, i_0le, i_0lt, i_le0, i_in1, i_cl, nI_add, pk_mul, pk_sub, i_div, i_rem, i_sh1, i_bit, i_or, i_and, i_andn, nt_le, nf_le, nt_lt, nf_lt, nt_eq, nf_eq, not_true_eq_false, and_self, and_false, false_and, eq_self, Bool.toNat_true, Bool.toNat_false, i_bool, i_bool1, Bool.false_eq_true, Bool.true_eq_false, reduceCtorEq, i_neg1, i_neg2, i_neg3, i_neg4, i_neg5, i_neg6, i_neg7, i_neg8, i_neg9, i_nega, i_negb, i_negc, i_max2, i_min2, hr])
          refine c_mRow ?_
          try simp (disch := omega) only [no0, no1, nz1, nz2, nz3, nz4, nz5, nz7, nz8, Classical.not_not, bz0, bz1, wi_nil, ld_0, ld_s, isIv_I, isLv_L, isRv_R, true_and, and_true, lset_0, lset_1, lset_s, avw_I, avw_L, avw_R, clr_cons, clr_nil, kst_0, kst_1, kstL_0, kstL_1, addk_I, pA_0, pA_s, pD_0, pD_s, wid_nil, wid_cons, rcv_c, putv_I, putv_L, List.length_cons, List.length_nil, List.set_cons_zero, List.set_cons_succ, not_false_eq_true, Nat.reduceMod, Nat.reduceDiv, Nat.reduceEqDiff, Nat.reduceLT, Nat.reduceLeDiff, Nat.reduceAdd, Nat.reduceSub, reduceIte, Nat.lt_irrefl, Nat.zero_ne_one, Nat.one_ne_zero, Nat.zero_add, List.nil_append, List.cons_append, Option.toList_some, Option.toList_none, forall_const, false_implies, true_implies, false_or, or_false, true_or, or_true, i_le, i_lt, i_eq, i_eq0, i_lt0, i_0le, i_0lt, i_le0, i_in1, i_cl, nI_add, pk_mul, pk_sub, i_div, i_rem, i_sh1, i_bit, i_or, i_and, i_andn, nt_le, nf_le, nt_lt, nf_lt, nt_eq, nf_eq, not_true_eq_false, and_self, and_false, false_and, eq_self, Bool.toNat_true, Bool.toNat_false, i_bool, i_bool1, Bool.false_eq_true, Bool.true_eq_false, reduceCtorEq, i_neg1, i_neg2, i_neg3, i_neg4, i_neg5, i_neg6, i_neg7, i_neg8, i_neg9, i_nega, i_negb, i_negc, i_max2, i_min2, ht, hn1, (show gA (xRef 1 S) 31 0 r0 = -nI 1 from hsr), wi_nil]
          repeat (
            first
            | refine s_X9_copy_0 ?_
            | refine s_X9_copy_4 ?_
            | refine s_X9_copy_11 ?_
            | refine s_X9_copy_14 ?_
            | refine s_X9_copy_16 ?_
            | refine s_X9_copy_26 ?_
            | refine s_X9_copy_27 ?_
            | refine s_X9_copy_45 ?_
            | refine s_X9_copy_50 ?_
            | refine s_X9_copy_51 ?_
            | refine s_X9_copy_95 ?_
            | refine s_X9_copy_100 ?_
            | refine s_X9_copy_101 ?_
            | refine s_X9_copy_126 ?_
            | refine s_X9_copy_133 ?_
            | refine s_X9_copy_171 ?_
            simp (disch := omega) only [B_X9_copy_0, wi_iload_n, wi_invokestatic, B_X9_copy_4, wi_if_eq, B_X9_copy_11, wi_if_ne, B_X9_copy_14, wi_iconst, wi_ireturn, B_X9_copy_16, wi_iload, wi_if_ge, wi_aload_n, wi_invokevirtual, cnt_8, B_X9_copy_26, B_X9_copy_27, wi_getfield, fldv_8_5, fds_8_5, wi_iaload, wi_if_lt, cnt_31, aTy_31, aLn_31, arr_31, cnt_32, aTy_32, aLn_32, arr_32, cnt_33, aTy_33, aLn_33, arr_33, B_X9_copy_45, B_X9_copy_50, B_X9_copy_51, wi_i2l, wi_ladd, wi_lcmp, wi_if_gt, wi_if_le, B_X9_copy_95, B_X9_copy_100, B_X9_copy_101, wi_istore, B_X9_copy_104, wi_icmp_ge, fldv_8_7, fds_8_7, wi_iadd, B_X9_copy_126, wi_iastore, wi_iinc, wi_goto, B_X9_copy_133, B_X9_copy_136, fldv_8_6, fds_8_6, wi_bipush, wi_imul, B_X9_copy_171, no0, no1, nz1, nz2, nz3, nz4, nz5, nz7, nz8, Classical.not_not, bz0, bz1, wi_nil, ld_0, ld_s, isIv_I, isLv_L, isRv_R, true_and, and_true, lset_0, lset_1, lset_s, avw_I, avw_L, avw_R, clr_cons, clr_nil, kst_0, kst_1, kstL_0, kstL_1, addk_I, pA_0, pA_s, pD_0, pD_s, wid_nil, wid_cons, rcv_c, putv_I, putv_L, List.length_cons, List.length_nil, List.set_cons_zero, List.set_cons_succ, not_false_eq_true, Nat.reduceMod, Nat.reduceDiv, Nat.reduceEqDiff, Nat.reduceLT, Nat.reduceLeDiff, Nat.reduceAdd, Nat.reduceSub, reduceIte, Nat.lt_irrefl, Nat.zero_ne_one, Nat.one_ne_zero, Nat.zero_add, List.nil_append, List.cons_append, Option.toList_some, Option.toList_none, forall_const, false_implies, true_implies, false_or, or_false, true_or, or_true, i_le, i_lt, i_eq, i_eq0, i_lt0, i_0le, i_0lt, i_le0, i_in1, i_cl, nI_add, pk_mul, pk_sub, i_div, i_rem, i_sh1, i_bit, i_or, i_and, i_andn, nt_le, nf_le, nt_lt, nf_lt, nt_eq, nf_eq, not_true_eq_false, and_self, and_false, false_and, eq_self, Bool.toNat_true, Bool.toNat_false, i_bool, i_bool1, Bool.false_eq_true, Bool.true_eq_false, reduceCtorEq, i_neg1, i_neg2, i_neg3, i_neg4, i_neg5, i_neg6, i_neg7, i_neg8, i_neg9, i_nega, i_negb, i_negc, i_max2, i_min2, ht, hn1, (show gA (xRef 1 S) 31 0 r0 = -nI 1 from hsr)])
          refine c_meets (by decide) ?_
          try simp (disch := omega) only [no0, no1, nz1, nz2, nz3, nz4, nz5, nz7, nz8, Classical.not_not, bz0, bz1, wi_nil, ld_0, ld_s, isIv_I, isLv_L, isRv_R, true_and, and_true, lset_0, lset_1, lset_s, avw_I, avw_L, avw_R, clr_cons, clr_nil, kst_0, kst_1, kstL_0, kstL_1, addk_I, pA_0, pA_s, pD_0, pD_s, wid_nil, wid_cons, rcv_c, putv_I, putv_L, List.length_cons, List.length_nil, List.set_cons_zero, List.set_cons_succ, not_false_eq_true, Nat.reduceMod, Nat.reduceDiv, Nat.reduceEqDiff, Nat.reduceLT, Nat.reduceLeDiff, Nat.reduceAdd, Nat.reduceSub, reduceIte, Nat.lt_irrefl, Nat.zero_ne_one, Nat.one_ne_zero, Nat.zero_add, List.nil_append, List.cons_append, Option.toList_some, Option.toList_none, forall_const, false_implies, true_implies, false_or, or_false, true_or, or_true, i_le, i_lt, i_eq, i_eq0, i_lt0, i_0le, i_0lt, i_le0, i_in1, i_cl, nI_add, pk_mul, pk_sub, i_div, i_rem, i_sh1, i_bit, i_or, i_and, i_andn, nt_le, nf_le, nt_lt, nf_lt, nt_eq, nf_eq, not_true_eq_false, and_self, and_false, false_and, eq_self, Bool.toNat_true, Bool.toNat_false, i_bool, i_bool1, Bool.false_eq_true, Bool.true_eq_false, reduceCtorEq, i_neg1, i_neg2, i_neg3, i_neg4, i_neg5, i_neg6, i_neg7, i_neg8, i_neg9, i_nega, i_negb, i_negc, i_max2, i_min2, wi_nil]
          repeat (
            first
            | refine s_X9_copy_0 ?_
            | refine s_X9_copy_4 ?_
            | refine s_X9_copy_11 ?_
            | refine s_X9_copy_14 ?_
            | refine s_X9_copy_16 ?_
            | refine s_X9_copy_26 ?_
            | refine s_X9_copy_27 ?_
            | refine s_X9_copy_45 ?_
            | refine s_X9_copy_50 ?_
            | refine s_X9_copy_51 ?_
            | refine s_X9_copy_95 ?_
            | refine s_X9_copy_100 ?_
            | refine s_X9_copy_101 ?_
            | refine s_X9_copy_126 ?_
            | refine s_X9_copy_133 ?_
            | refine s_X9_copy_171 ?_
            simp (disch := omega) only [B_X9_copy_0, wi_iload_n, wi_invokestatic, B_X9_copy_4, wi_if_eq, B_X9_copy_11, wi_if_ne, B_X9_copy_14, wi_iconst, wi_ireturn, B_X9_copy_16, wi_iload, wi_if_ge, wi_aload_n, wi_invokevirtual, cnt_8, B_X9_copy_26, B_X9_copy_27, wi_getfield, fldv_8_5, fds_8_5, wi_iaload, wi_if_lt, cnt_31, aTy_31, aLn_31, arr_31, cnt_32, aTy_32, aLn_32, arr_32, cnt_33, aTy_33, aLn_33, arr_33, B_X9_copy_45, B_X9_copy_50, B_X9_copy_51, wi_i2l, wi_ladd, wi_lcmp, wi_if_gt, wi_if_le, B_X9_copy_95, B_X9_copy_100, B_X9_copy_101, wi_istore, B_X9_copy_104, wi_icmp_ge, fldv_8_7, fds_8_7, wi_iadd, B_X9_copy_126, wi_iastore, wi_iinc, wi_goto, B_X9_copy_133, B_X9_copy_136, fldv_8_6, fds_8_6, wi_bipush, wi_imul, B_X9_copy_171, no0, no1, nz1, nz2, nz3, nz4, nz5, nz7, nz8, Classical.not_not, bz0, bz1, wi_nil, ld_0, ld_s, isIv_I, isLv_L, isRv_R, true_and, and_true, lset_0, lset_1, lset_s, avw_I, avw_L, avw_R, clr_cons, clr_nil, kst_0, kst_1, kstL_0, kstL_1, addk_I, pA_0, pA_s, pD_0, pD_s, wid_nil, wid_cons, rcv_c, putv_I, putv_L, List.length_cons, List.length_nil, List.set_cons_zero, List.set_cons_succ, not_false_eq_true, Nat.reduceMod, Nat.reduceDiv, Nat.reduceEqDiff, Nat.reduceLT, Nat.reduceLeDiff, Nat.reduceAdd, Nat.reduceSub, reduceIte, Nat.lt_irrefl, Nat.zero_ne_one, Nat.one_ne_zero, Nat.zero_add, List.nil_append, List.cons_append, Option.toList_some, Option.toList_none, forall_const, false_implies, true_implies, false_or, or_false, true_or, or_true, i_le, i_lt, i_eq, i_eq0, i_lt0, i_0le, i_0lt, i_le0, i_in1, i_cl, nI_add, pk_mul, pk_sub, i_div, i_rem, i_sh1, i_bit, i_or, i_and, i_andn, nt_le, nf_le, nt_lt, nf_lt, nt_eq, nf_eq, not_true_eq_false, and_self, and_false, false_and, eq_self, Bool.toNat_true, Bool.toNat_false, i_bool, i_bool1, Bool.false_eq_true, Bool.true_eq_false, reduceCtorEq, i_neg1, i_neg2, i_neg3, i_neg4, i_neg5, i_neg6, i_neg7, i_neg8, i_neg9, i_nega, i_negb, i_negc, i_max2, i_min2])
          exact pm (r_ref h (by decide) Fr.refl)
        · obtain ⟨z, hzr⟩ : ∃ z, rs r0 = z + 1 := ⟨rs r0 - 1, by omega⟩
          rw [hzr, sz_s] at hsr
          by_cases hz2 : rs t0 = 0
          · rw [hz2, sz_0] at hst
            refine x_entry (ls2 := [aR 7 0, aI (nI r0), aI i, aI (nI t0), aI j, aI n]) (Nat.le_of_ble_eq_true rfl) pl_8 rfl (Nat.le_of_ble_eq_true rfl) ?_
            try simp (disch := omega) only [no0, no1, nz1, nz2, nz3, nz4, nz5, nz7, nz8, Classical.not_not, bz0, bz1, wi_nil, ld_0, ld_s, isIv_I, isLv_L, isRv_R, true_and, and_true, lset_0, lset_1, lset_s, avw_I, avw_L, avw_R, clr_cons, clr_nil, kst_0, kst_1, kstL_0, kstL_1, addk_I, pA_0, pA_s, pD_0, pD_s, wid_nil, wid_cons, rcv_c, putv_I, putv_L, List.length_cons, List.length_nil, List.set_cons_zero, List.set_cons_succ, not_false_eq_true, Nat.reduceMod, Nat.reduceDiv, Nat.reduceEqDiff, Nat.reduceLT, Nat.reduceLeDiff, Nat.reduceAdd, Nat.reduceSub, reduceIte, Nat.lt_irrefl, Nat.zero_ne_one, Nat.one_ne_zero, Nat.zero_add, List.nil_append, List.cons_append, Option.toList_some, Option.toList_none, forall_const, false_implies, true_implies, false_or, or_false, true_or, or_true, i_le, i_lt, i_eq, i_eq0, i_lt0, i_0le, i_0lt, i_le0, i_in1, i_cl, nI_add, pk_mul, pk_sub, i_div, i_rem, i_sh1, i_bit, i_or, i_and, i_andn, nt_le, nf_le, nt_lt, nf_lt, nt_eq, nf_eq, not_true_eq_false, and_self, and_false, false_and, eq_self, Bool.toNat_true, Bool.toNat_false, i_bool, i_bool1, Bool.false_eq_true, Bool.true_eq_false, reduceCtorEq, i_neg1, i_neg2, i_neg3, i_neg4, i_neg5, i_neg6, i_neg7, i_neg8, i_neg9, i_nega, i_negb, i_negc, i_max2, i_min2, wi_nil]
            repeat (
              first
              | refine s_X8_copy_0 ?_
              | refine s_X8_copy_4 ?_
              | refine s_X8_copy_11 ?_
              | refine s_X8_copy_14 ?_
              | refine s_X8_copy_16 ?_
              | refine s_X8_copy_26 ?_
              | refine s_X8_copy_27 ?_
              | refine s_X8_copy_35 ?_
              | refine s_X8_copy_46 ?_
              | refine s_X8_copy_49 ?_
              | refine s_X8_copy_54 ?_
              | refine s_X8_copy_55 ?_
              | refine s_X8_copy_66 ?_
              | refine s_X8_copy_81 ?_
              | refine s_X8_copy_84 ?_
              | refine s_X8_copy_89 ?_
              | refine s_X8_copy_90 ?_
              | refine s_X8_copy_104 ?_
              simp (disch := omega) only [B_X8_copy_0, wi_iload_n, wi_invokestatic, B_X8_copy_4, wi_if_eq, B_X8_copy_11, wi_if_ne, B_X8_copy_14, wi_iconst, wi_ireturn, B_X8_copy_16, wi_iload, wi_if_ge, wi_aload_n, wi_invokevirtual, cnt_7, B_X8_copy_26, B_X8_copy_27, wi_getfield, fldv_7_0, fds_7_0, cnt_3, B_X8_copy_35, B_X8_copy_46, B_X8_copy_49, B_X8_copy_54, B_X8_copy_55, B_X8_copy_66, B_X8_copy_81, B_X8_copy_84, B_X8_copy_89, B_X8_copy_90, B_X8_copy_104, no0, no1, nz1, nz2, nz3, nz4, nz5, nz7, nz8, Classical.not_not, bz0, bz1, wi_nil, ld_0, ld_s, isIv_I, isLv_L, isRv_R, true_and, and_true, lset_0, lset_1, lset_s, avw_I, avw_L, avw_R, clr_cons, clr_nil, kst_0, kst_1, kstL_0, kstL_1, addk_I, pA_0, pA_s, pD_0, pD_s, wid_nil, wid_cons, rcv_c, putv_I, putv_L, List.length_cons, List.length_nil, List.set_cons_zero, List.set_cons_succ, not_false_eq_true, Nat.reduceMod, Nat.reduceDiv, Nat.reduceEqDiff, Nat.reduceLT, Nat.reduceLeDiff, Nat.reduceAdd, Nat.reduceSub, reduceIte, Nat.lt_irrefl, Nat.zero_ne_one, Nat.one_ne_zero, Nat.zero_add, List.nil_append, List.cons_append, Option.toList_some, Option.toList_none, forall_const, false_implies, true_implies, false_or, or_false, true_or, or_true, i_le, i_lt, i_eq, i_eq0, i_lt0, i_0le, i_0lt, i_le0, i_in1, i_cl, nI_add, pk_mul, pk_sub, i_div, i_rem, i_sh1, i_bit, i_or, i_and, i_andn, nt_le, nf_le, nt_lt, nf_lt, nt_eq, nf_eq, not_true_eq_false, and_self, and_false, false_and, eq_self, Bool.toNat_true, Bool.toNat_false, i_bool, i_bool1, Bool.false_eq_true, Bool.true_eq_false, reduceCtorEq, i_neg1, i_neg2, i_neg3, i_neg4, i_neg5, i_neg6, i_neg7, i_neg8, i_neg9, i_nega, i_negb, i_negc, i_max2, i_min2])
            refine c_isRow ?_
            try simp (disch := omega) only [no0, no1, nz1, nz2, nz3, nz4, nz5, nz7, nz8, Classical.not_not, bz0, bz1, wi_nil, ld_0, ld_s, isIv_I, isLv_L, isRv_R, true_and, and_true, lset_0, lset_1, lset_s, avw_I, avw_L, avw_R, clr_cons, clr_nil, kst_0, kst_1, kstL_0, kstL_1, addk_I, pA_0, pA_s, pD_0, pD_s, wid_nil, wid_cons, rcv_c, putv_I, putv_L, List.length_cons, List.length_nil, List.set_cons_zero, List.set_cons_succ, not_false_eq_true, Nat.reduceMod, Nat.reduceDiv, Nat.reduceEqDiff, Nat.reduceLT, Nat.reduceLeDiff, Nat.reduceAdd, Nat.reduceSub, reduceIte, Nat.lt_irrefl, Nat.zero_ne_one, Nat.one_ne_zero, Nat.zero_add, List.nil_append, List.cons_append, Option.toList_some, Option.toList_none, forall_const, false_implies, true_implies, false_or, or_false, true_or, or_true, i_le, i_lt, i_eq, i_eq0, i_lt0, i_0le, i_0lt, i_le0, i_in1, i_cl, nI_add, pk_mul, pk_sub, i_div, i_rem, i_sh1, i_bit, i_or, i_and, i_andn, nt_le, nf_le, nt_lt, nf_lt, nt_eq, nf_eq, not_true_eq_false, and_self, and_false, false_and, eq_self, Bool.toNat_true, Bool.toNat_false, i_bool, i_bool1, Bool.false_eq_true, Bool.true_eq_false, reduceCtorEq, i_neg1, i_neg2, i_neg3, i_neg4, i_neg5, i_neg6, i_neg7, i_neg8, i_neg9, i_nega, i_negb, i_negc, i_max2, i_min2, hr, wi_nil]
            repeat (
              first
              | refine s_X8_copy_0 ?_
              | refine s_X8_copy_4 ?_
              | refine s_X8_copy_11 ?_
              | refine s_X8_copy_14 ?_
              | refine s_X8_copy_16 ?_
              | refine s_X8_copy_26 ?_
              | refine s_X8_copy_27 ?_
              | refine s_X8_copy_35 ?_
              | refine s_X8_copy_46 ?_
              | refine s_X8_copy_49 ?_
              | refine s_X8_copy_54 ?_
              | refine s_X8_copy_55 ?_
              | refine s_X8_copy_66 ?_
              | refine s_X8_copy_81 ?_
              | refine s_X8_copy_84 ?_
              | refine s_X8_copy_89 ?_
              | refine s_X8_copy_90 ?_
              | refine s_X8_copy_104 ?_
              simp (disch := omega) only [B_X8_copy_0, wi_iload_n, wi_invokestatic, B_X8_copy_4, wi_if_eq, B_X8_copy_11, wi_if_ne, B_X8_copy_14, wi_iconst, wi_ireturn, B_X8_copy_16, wi_iload, wi_if_ge, wi_aload_n, wi_invokevirtual, cnt_7, B_X8_copy_26, B_X8_copy_27, wi_getfield, fldv_7_0, fds_7_0, cnt_3, B_X8_copy_35, B_X8_copy_46, B_X8_copy_49, B_X8_copy_54, B_X8_copy_55, B_X8_copy_66, B_X8_copy_81, B_X8_copy_84, B_X8_copy_89, B_X8_copy_90, B_X8_copy_104, no0, no1, nz1, nz2, nz3, nz4, nz5, nz7, nz8, Classical.not_not, bz0, bz1, wi_nil, ld_0, ld_s, isIv_I, isLv_L, isRv_R, true_and, and_true, lset_0, lset_1, lset_s, avw_I, avw_L, avw_R, clr_cons, clr_nil, kst_0, kst_1, kstL_0, kstL_1, addk_I, pA_0, pA_s, pD_0, pD_s, wid_nil, wid_cons, rcv_c, putv_I, putv_L, List.length_cons, List.length_nil, List.set_cons_zero, List.set_cons_succ, not_false_eq_true, Nat.reduceMod, Nat.reduceDiv, Nat.reduceEqDiff, Nat.reduceLT, Nat.reduceLeDiff, Nat.reduceAdd, Nat.reduceSub, reduceIte, Nat.lt_irrefl, Nat.zero_ne_one, Nat.one_ne_zero, Nat.zero_add, List.nil_append, List.cons_append, Option.toList_some, Option.toList_none, forall_const, false_implies, true_implies, false_or, or_false, true_or, or_true, i_le, i_lt, i_eq, i_eq0, i_lt0, i_0le, i_0lt, i_le0, i_in1, i_cl, nI_add, pk_mul, pk_sub, i_div, i_rem, i_sh1, i_bit, i_or, i_and, i_andn, nt_le, nf_le, nt_lt, nf_lt, nt_eq, nf_eq, not_true_eq_false, and_self, and_false, false_and, eq_self, Bool.toNat_true, Bool.toNat_false, i_bool, i_bool1, Bool.false_eq_true, Bool.true_eq_false, reduceCtorEq, i_neg1, i_neg2, i_neg3, i_neg4, i_neg5, i_neg6, i_neg7, i_neg8, i_neg9, i_nega, i_negb, i_negc, i_max2, i_min2, hr])
            refine c_isRow ?_
            try simp (disch := omega) only [no0, no1, nz1, nz2, nz3, nz4, nz5, nz7, nz8, Classical.not_not, bz0, bz1, wi_nil, ld_0, ld_s, isIv_I, isLv_L, isRv_R, true_and, and_true, lset_0, lset_1, lset_s, avw_I, avw_L, avw_R, clr_cons, clr_nil, kst_0, kst_1, kstL_0, kstL_1, addk_I, pA_0, pA_s, pD_0, pD_s, wid_nil, wid_cons, rcv_c, putv_I, putv_L, List.length_cons, List.length_nil, List.set_cons_zero, List.set_cons_succ, not_false_eq_true, Nat.reduceMod, Nat.reduceDiv, Nat.reduceEqDiff, Nat.reduceLT, Nat.reduceLeDiff, Nat.reduceAdd, Nat.reduceSub, reduceIte, Nat.lt_irrefl, Nat.zero_ne_one, Nat.one_ne_zero, Nat.zero_add, List.nil_append, List.cons_append, Option.toList_some, Option.toList_none, forall_const, false_implies, true_implies, false_or, or_false, true_or, or_true, i_le, i_lt, i_eq, i_eq0, i_lt0, i_0le, i_0lt, i_le0, i_in1, i_cl, nI_add, pk_mul, pk_sub, i_div, i_rem, i_sh1, i_bit, i_or, i_and, i_andn, nt_le, nf_le, nt_lt, nf_lt, nt_eq, nf_eq, not_true_eq_false, and_self, and_false, false_and, eq_self, Bool.toNat_true, Bool.toNat_false, i_bool, i_bool1, Bool.false_eq_true, Bool.true_eq_false, reduceCtorEq, i_neg1, i_neg2, i_neg3, i_neg4, i_neg5, i_neg6, i_neg7, i_neg8, i_neg9, i_nega, i_negb, i_negc, i_max2, i_min2, ht, hn1, wi_nil]
            repeat (
              first
              | refine s_X8_copy_0 ?_
              | refine s_X8_copy_4 ?_
              | refine s_X8_copy_11 ?_
              | refine s_X8_copy_14 ?_
              | refine s_X8_copy_16 ?_
              | refine s_X8_copy_26 ?_
              | refine s_X8_copy_27 ?_
              | refine s_X8_copy_35 ?_
              | refine s_X8_copy_46 ?_
              | refine s_X8_copy_49 ?_
              | refine s_X8_copy_54 ?_
              | refine s_X8_copy_55 ?_
              | refine s_X8_copy_66 ?_
              | refine s_X8_copy_81 ?_
              | refine s_X8_copy_84 ?_
              | refine s_X8_copy_89 ?_
              | refine s_X8_copy_90 ?_
              | refine s_X8_copy_104 ?_
              simp (disch := omega) only [B_X8_copy_0, wi_iload_n, wi_invokestatic, B_X8_copy_4, wi_if_eq, B_X8_copy_11, wi_if_ne, B_X8_copy_14, wi_iconst, wi_ireturn, B_X8_copy_16, wi_iload, wi_if_ge, wi_aload_n, wi_invokevirtual, cnt_7, B_X8_copy_26, B_X8_copy_27, wi_getfield, fldv_7_0, fds_7_0, cnt_3, B_X8_copy_35, B_X8_copy_46, B_X8_copy_49, B_X8_copy_54, B_X8_copy_55, B_X8_copy_66, B_X8_copy_81, B_X8_copy_84, B_X8_copy_89, B_X8_copy_90, B_X8_copy_104, no0, no1, nz1, nz2, nz3, nz4, nz5, nz7, nz8, Classical.not_not, bz0, bz1, wi_nil, ld_0, ld_s, isIv_I, isLv_L, isRv_R, true_and, and_true, lset_0, lset_1, lset_s, avw_I, avw_L, avw_R, clr_cons, clr_nil, kst_0, kst_1, kstL_0, kstL_1, addk_I, pA_0, pA_s, pD_0, pD_s, wid_nil, wid_cons, rcv_c, putv_I, putv_L, List.length_cons, List.length_nil, List.set_cons_zero, List.set_cons_succ, not_false_eq_true, Nat.reduceMod, Nat.reduceDiv, Nat.reduceEqDiff, Nat.reduceLT, Nat.reduceLeDiff, Nat.reduceAdd, Nat.reduceSub, reduceIte, Nat.lt_irrefl, Nat.zero_ne_one, Nat.one_ne_zero, Nat.zero_add, List.nil_append, List.cons_append, Option.toList_some, Option.toList_none, forall_const, false_implies, true_implies, false_or, or_false, true_or, or_true, i_le, i_lt, i_eq, i_eq0, i_lt0, i_0le, i_0lt, i_le0, i_in1, i_cl, nI_add, pk_mul, pk_sub, i_div, i_rem, i_sh1, i_bit, i_or, i_and, i_andn, nt_le, nf_le, nt_lt, nf_lt, nt_eq, nf_eq, not_true_eq_false, and_self, and_false, false_and, eq_self, Bool.toNat_true, Bool.toNat_false, i_bool, i_bool1, Bool.false_eq_true, Bool.true_eq_false, reduceCtorEq, i_neg1, i_neg2, i_neg3, i_neg4, i_neg5, i_neg6, i_neg7, i_neg8, i_neg9, i_nega, i_negb, i_negc, i_max2, i_min2, ht, hn1])
            refine c_Rthere h1.1 hr0 ?_
            rw [if_neg hz]
            try simp (disch := omega) only [no0, no1, nz1, nz2, nz3, nz4, nz5, nz7, nz8, Classical.not_not, bz0, bz1, wi_nil, ld_0, ld_s, isIv_I, isLv_L, isRv_R, true_and, and_true, lset_0, lset_1, lset_s, avw_I, avw_L, avw_R, clr_cons, clr_nil, kst_0, kst_1, kstL_0, kstL_1, addk_I, pA_0, pA_s, pD_0, pD_s, wid_nil, wid_cons, rcv_c, putv_I, putv_L, List.length_cons, List.length_nil, List.set_cons_zero, List.set_cons_succ, not_false_eq_true, Nat.reduceMod, Nat.reduceDiv, Nat.reduceEqDiff, Nat.reduceLT, Nat.reduceLeDiff, Nat.reduceAdd, Nat.reduceSub, reduceIte, Nat.lt_irrefl, Nat.zero_ne_one, Nat.one_ne_zero, Nat.zero_add, List.nil_append, List.cons_append, Option.toList_some, Option.toList_none, forall_const, false_implies, true_implies, false_or, or_false, true_or, or_true, i_le, i_lt, i_eq, i_eq0, i_lt0, i_0le, i_0lt, i_le0, i_in1, i_cl, nI_add, pk_mul, pk_sub, i_div, i_rem, i_sh1, i_bit, i_or, i_and, i_andn, nt_le, nf_le, nt_lt, nf_lt, nt_eq, nf_eq, not_true_eq_false, and_self, and_false, false_and, eq_self, Bool.toNat_true, Bool.toNat_false, i_bool, i_bool1, Bool.false_eq_true, Bool.true_eq_false, reduceCtorEq, i_neg1, i_neg2, i_neg3, i_neg4, i_neg5, i_neg6, i_neg7, i_neg8, i_neg9, i_nega, i_negb, i_negc, i_max2, i_min2, wi_nil]
            repeat (
              first
              | refine s_X8_copy_0 ?_
              | refine s_X8_copy_4 ?_
              | refine s_X8_copy_11 ?_
              | refine s_X8_copy_14 ?_
              | refine s_X8_copy_16 ?_
              | refine s_X8_copy_26 ?_
              | refine s_X8_copy_27 ?_
              | refine s_X8_copy_35 ?_
              | refine s_X8_copy_46 ?_
              | refine s_X8_copy_49 ?_
              | refine s_X8_copy_54 ?_
              | refine s_X8_copy_55 ?_
              | refine s_X8_copy_66 ?_
              | refine s_X8_copy_81 ?_
              | refine s_X8_copy_84 ?_
              | refine s_X8_copy_89 ?_
              | refine s_X8_copy_90 ?_
              | refine s_X8_copy_104 ?_
              simp (disch := omega) only [B_X8_copy_0, wi_iload_n, wi_invokestatic, B_X8_copy_4, wi_if_eq, B_X8_copy_11, wi_if_ne, B_X8_copy_14, wi_iconst, wi_ireturn, B_X8_copy_16, wi_iload, wi_if_ge, wi_aload_n, wi_invokevirtual, cnt_7, B_X8_copy_26, B_X8_copy_27, wi_getfield, fldv_7_0, fds_7_0, cnt_3, B_X8_copy_35, B_X8_copy_46, B_X8_copy_49, B_X8_copy_54, B_X8_copy_55, B_X8_copy_66, B_X8_copy_81, B_X8_copy_84, B_X8_copy_89, B_X8_copy_90, B_X8_copy_104, no0, no1, nz1, nz2, nz3, nz4, nz5, nz7, nz8, Classical.not_not, bz0, bz1, wi_nil, ld_0, ld_s, isIv_I, isLv_L, isRv_R, true_and, and_true, lset_0, lset_1, lset_s, avw_I, avw_L, avw_R, clr_cons, clr_nil, kst_0, kst_1, kstL_0, kstL_1, addk_I, pA_0, pA_s, pD_0, pD_s, wid_nil, wid_cons, rcv_c, putv_I, putv_L, List.length_cons, List.length_nil, List.set_cons_zero, List.set_cons_succ, not_false_eq_true, Nat.reduceMod, Nat.reduceDiv, Nat.reduceEqDiff, Nat.reduceLT, Nat.reduceLeDiff, Nat.reduceAdd, Nat.reduceSub, reduceIte, Nat.lt_irrefl, Nat.zero_ne_one, Nat.one_ne_zero, Nat.zero_add, List.nil_append, List.cons_append, Option.toList_some, Option.toList_none, forall_const, false_implies, true_implies, false_or, or_false, true_or, or_true, i_le, i_lt, i_eq, i_eq0, i_lt0, i_0le, i_0lt, i_le0, i_in1, i_cl, nI_add, pk_mul, pk_sub, i_div, i_rem, i_sh1, i_bit, i_or, i_and, i_andn, nt_le, nf_le, nt_lt, nf_lt, nt_eq, nf_eq, not_true_eq_false, and_self, and_false, false_and, eq_self, Bool.toNat_true, Bool.toNat_false, i_bool, i_bool1, Bool.false_eq_true, Bool.true_eq_false, reduceCtorEq, i_neg1, i_neg2, i_neg3, i_neg4, i_neg5, i_neg6, i_neg7, i_neg8, i_neg9, i_nega, i_negb, i_negc, i_max2, i_min2])
            refine c_Rthere h1.1 ht0 ?_
            rw [if_pos hz2]
            try simp (disch := omega) only [no0, no1, nz1, nz2, nz3, nz4, nz5, nz7, nz8, Classical.not_not, bz0, bz1, wi_nil, ld_0, ld_s, isIv_I, isLv_L, isRv_R, true_and, and_true, lset_0, lset_1, lset_s, avw_I, avw_L, avw_R, clr_cons, clr_nil, kst_0, kst_1, kstL_0, kstL_1, addk_I, pA_0, pA_s, pD_0, pD_s, wid_nil, wid_cons, rcv_c, putv_I, putv_L, List.length_cons, List.length_nil, List.set_cons_zero, List.set_cons_succ, not_false_eq_true, Nat.reduceMod, Nat.reduceDiv, Nat.reduceEqDiff, Nat.reduceLT, Nat.reduceLeDiff, Nat.reduceAdd, Nat.reduceSub, reduceIte, Nat.lt_irrefl, Nat.zero_ne_one, Nat.one_ne_zero, Nat.zero_add, List.nil_append, List.cons_append, Option.toList_some, Option.toList_none, forall_const, false_implies, true_implies, false_or, or_false, true_or, or_true, i_le, i_lt, i_eq, i_eq0, i_lt0, i_0le, i_0lt, i_le0, i_in1, i_cl, nI_add, pk_mul, pk_sub, i_div, i_rem, i_sh1, i_bit, i_or, i_and, i_andn, nt_le, nf_le, nt_lt, nf_lt, nt_eq, nf_eq, not_true_eq_false, and_self, and_false, false_and, eq_self, Bool.toNat_true, Bool.toNat_false, i_bool, i_bool1, Bool.false_eq_true, Bool.true_eq_false, reduceCtorEq, i_neg1, i_neg2, i_neg3, i_neg4, i_neg5, i_neg6, i_neg7, i_neg8, i_neg9, i_nega, i_negb, i_negc, i_max2, i_min2, wi_nil]
            repeat (
              first
              | refine s_X8_copy_0 ?_
              | refine s_X8_copy_4 ?_
              | refine s_X8_copy_11 ?_
              | refine s_X8_copy_14 ?_
              | refine s_X8_copy_16 ?_
              | refine s_X8_copy_26 ?_
              | refine s_X8_copy_27 ?_
              | refine s_X8_copy_35 ?_
              | refine s_X8_copy_46 ?_
              | refine s_X8_copy_49 ?_
              | refine s_X8_copy_54 ?_
              | refine s_X8_copy_55 ?_
              | refine s_X8_copy_66 ?_
              | refine s_X8_copy_81 ?_
              | refine s_X8_copy_84 ?_
              | refine s_X8_copy_89 ?_
              | refine s_X8_copy_90 ?_
              | refine s_X8_copy_104 ?_
              simp (disch := omega) only [B_X8_copy_0, wi_iload_n, wi_invokestatic, B_X8_copy_4, wi_if_eq, B_X8_copy_11, wi_if_ne, B_X8_copy_14, wi_iconst, wi_ireturn, B_X8_copy_16, wi_iload, wi_if_ge, wi_aload_n, wi_invokevirtual, cnt_7, B_X8_copy_26, B_X8_copy_27, wi_getfield, fldv_7_0, fds_7_0, cnt_3, B_X8_copy_35, B_X8_copy_46, B_X8_copy_49, B_X8_copy_54, B_X8_copy_55, B_X8_copy_66, B_X8_copy_81, B_X8_copy_84, B_X8_copy_89, B_X8_copy_90, B_X8_copy_104, no0, no1, nz1, nz2, nz3, nz4, nz5, nz7, nz8, Classical.not_not, bz0, bz1, wi_nil, ld_0, ld_s, isIv_I, isLv_L, isRv_R, true_and, and_true, lset_0, lset_1, lset_s, avw_I, avw_L, avw_R, clr_cons, clr_nil, kst_0, kst_1, kstL_0, kstL_1, addk_I, pA_0, pA_s, pD_0, pD_s, wid_nil, wid_cons, rcv_c, putv_I, putv_L, List.length_cons, List.length_nil, List.set_cons_zero, List.set_cons_succ, not_false_eq_true, Nat.reduceMod, Nat.reduceDiv, Nat.reduceEqDiff, Nat.reduceLT, Nat.reduceLeDiff, Nat.reduceAdd, Nat.reduceSub, reduceIte, Nat.lt_irrefl, Nat.zero_ne_one, Nat.one_ne_zero, Nat.zero_add, List.nil_append, List.cons_append, Option.toList_some, Option.toList_none, forall_const, false_implies, true_implies, false_or, or_false, true_or, or_true, i_le, i_lt, i_eq, i_eq0, i_lt0, i_0le, i_0lt, i_le0, i_in1, i_cl, nI_add, pk_mul, pk_sub, i_div, i_rem, i_sh1, i_bit, i_or, i_and, i_andn, nt_le, nf_le, nt_lt, nf_lt, nt_eq, nf_eq, not_true_eq_false, and_self, and_false, false_and, eq_self, Bool.toNat_true, Bool.toNat_false, i_bool, i_bool1, Bool.false_eq_true, Bool.true_eq_false, reduceCtorEq, i_neg1, i_neg2, i_neg3, i_neg4, i_neg5, i_neg6, i_neg7, i_neg8, i_neg9, i_nega, i_negb, i_negc, i_max2, i_min2])
            refine c_refuse (by decide) ?_
            try simp (disch := omega) only [no0, no1, nz1, nz2, nz3, nz4, nz5, nz7, nz8, Classical.not_not, bz0, bz1, wi_nil, ld_0, ld_s, isIv_I, isLv_L, isRv_R, true_and, and_true, lset_0, lset_1, lset_s, avw_I, avw_L, avw_R, clr_cons, clr_nil, kst_0, kst_1, kstL_0, kstL_1, addk_I, pA_0, pA_s, pD_0, pD_s, wid_nil, wid_cons, rcv_c, putv_I, putv_L, List.length_cons, List.length_nil, List.set_cons_zero, List.set_cons_succ, not_false_eq_true, Nat.reduceMod, Nat.reduceDiv, Nat.reduceEqDiff, Nat.reduceLT, Nat.reduceLeDiff, Nat.reduceAdd, Nat.reduceSub, reduceIte, Nat.lt_irrefl, Nat.zero_ne_one, Nat.one_ne_zero, Nat.zero_add, List.nil_append, List.cons_append, Option.toList_some, Option.toList_none, forall_const, false_implies, true_implies, false_or, or_false, true_or, or_true, i_le, i_lt, i_eq, i_eq0, i_lt0, i_0le, i_0lt, i_le0, i_in1, i_cl, nI_add, pk_mul, pk_sub, i_div, i_rem, i_sh1, i_bit, i_or, i_and, i_andn, nt_le, nf_le, nt_lt, nf_lt, nt_eq, nf_eq, not_true_eq_false, and_self, and_false, false_and, eq_self, Bool.toNat_true, Bool.toNat_false, i_bool, i_bool1, Bool.false_eq_true, Bool.true_eq_false, reduceCtorEq, i_neg1, i_neg2, i_neg3, i_neg4, i_neg5, i_neg6, i_neg7, i_neg8, i_neg9, i_nega, i_negb, i_negc, i_max2, i_min2, wi_nil]
            repeat (
              first
              | refine s_X8_copy_0 ?_
              | refine s_X8_copy_4 ?_
              | refine s_X8_copy_11 ?_
              | refine s_X8_copy_14 ?_
              | refine s_X8_copy_16 ?_
              | refine s_X8_copy_26 ?_
              | refine s_X8_copy_27 ?_
              | refine s_X8_copy_35 ?_
              | refine s_X8_copy_46 ?_
              | refine s_X8_copy_49 ?_
              | refine s_X8_copy_54 ?_
              | refine s_X8_copy_55 ?_
              | refine s_X8_copy_66 ?_
              | refine s_X8_copy_81 ?_
              | refine s_X8_copy_84 ?_
              | refine s_X8_copy_89 ?_
              | refine s_X8_copy_90 ?_
              | refine s_X8_copy_104 ?_
              simp (disch := omega) only [B_X8_copy_0, wi_iload_n, wi_invokestatic, B_X8_copy_4, wi_if_eq, B_X8_copy_11, wi_if_ne, B_X8_copy_14, wi_iconst, wi_ireturn, B_X8_copy_16, wi_iload, wi_if_ge, wi_aload_n, wi_invokevirtual, cnt_7, B_X8_copy_26, B_X8_copy_27, wi_getfield, fldv_7_0, fds_7_0, cnt_3, B_X8_copy_35, B_X8_copy_46, B_X8_copy_49, B_X8_copy_54, B_X8_copy_55, B_X8_copy_66, B_X8_copy_81, B_X8_copy_84, B_X8_copy_89, B_X8_copy_90, B_X8_copy_104, no0, no1, nz1, nz2, nz3, nz4, nz5, nz7, nz8, Classical.not_not, bz0, bz1, wi_nil, ld_0, ld_s, isIv_I, isLv_L, isRv_R, true_and, and_true, lset_0, lset_1, lset_s, avw_I, avw_L, avw_R, clr_cons, clr_nil, kst_0, kst_1, kstL_0, kstL_1, addk_I, pA_0, pA_s, pD_0, pD_s, wid_nil, wid_cons, rcv_c, putv_I, putv_L, List.length_cons, List.length_nil, List.set_cons_zero, List.set_cons_succ, not_false_eq_true, Nat.reduceMod, Nat.reduceDiv, Nat.reduceEqDiff, Nat.reduceLT, Nat.reduceLeDiff, Nat.reduceAdd, Nat.reduceSub, reduceIte, Nat.lt_irrefl, Nat.zero_ne_one, Nat.one_ne_zero, Nat.zero_add, List.nil_append, List.cons_append, Option.toList_some, Option.toList_none, forall_const, false_implies, true_implies, false_or, or_false, true_or, or_true, i_le, i_lt, i_eq, i_eq0, i_lt0, i_0le, i_0lt, i_le0, i_in1, i_cl, nI_add, pk_mul, pk_sub, i_div, i_rem, i_sh1, i_bit, i_or, i_and, i_andn, nt_le, nf_le, nt_lt, nf_lt, nt_eq, nf_eq, not_true_eq_false, and_self, and_false, false_and, eq_self, Bool.toNat_true, Bool.toNat_false, i_bool, i_bool1, Bool.false_eq_true, Bool.true_eq_false, reduceCtorEq, i_neg1, i_neg2, i_neg3, i_neg4, i_neg5, i_neg6, i_neg7, i_neg8, i_neg9, i_nega, i_negb, i_negc, i_max2, i_min2])
            refine px ?_
            refine x_entry (ls2 := [aR 8 0, aI (nI r0), aI i, aI (nI t0), aI j, aI n, aU]) (Nat.le_of_ble_eq_true rfl) pl_9 rfl (Nat.le_of_ble_eq_true rfl) ?_
            try simp (disch := omega) only [no0, no1, nz1, nz2, nz3, nz4, nz5, nz7, nz8, Classical.not_not, bz0, bz1, wi_nil, ld_0, ld_s, isIv_I, isLv_L, isRv_R, true_and, and_true, lset_0, lset_1, lset_s, avw_I, avw_L, avw_R, clr_cons, clr_nil, kst_0, kst_1, kstL_0, kstL_1, addk_I, pA_0, pA_s, pD_0, pD_s, wid_nil, wid_cons, rcv_c, putv_I, putv_L, List.length_cons, List.length_nil, List.set_cons_zero, List.set_cons_succ, not_false_eq_true, Nat.reduceMod, Nat.reduceDiv, Nat.reduceEqDiff, Nat.reduceLT, Nat.reduceLeDiff, Nat.reduceAdd, Nat.reduceSub, reduceIte, Nat.lt_irrefl, Nat.zero_ne_one, Nat.one_ne_zero, Nat.zero_add, List.nil_append, List.cons_append, Option.toList_some, Option.toList_none, forall_const, false_implies, true_implies, false_or, or_false, true_or, or_true, i_le, i_lt, i_eq, i_eq0, i_lt0, i_0le, i_0lt, i_le0, i_in1, i_cl, nI_add, pk_mul, pk_sub, i_div, i_rem, i_sh1, i_bit, i_or, i_and, i_andn, nt_le, nf_le, nt_lt, nf_lt, nt_eq, nf_eq, not_true_eq_false, and_self, and_false, false_and, eq_self, Bool.toNat_true, Bool.toNat_false, i_bool, i_bool1, Bool.false_eq_true, Bool.true_eq_false, reduceCtorEq, i_neg1, i_neg2, i_neg3, i_neg4, i_neg5, i_neg6, i_neg7, i_neg8, i_neg9, i_nega, i_negb, i_negc, i_max2, i_min2, wi_nil]
            repeat (
              first
              | refine s_X9_copy_0 ?_
              | refine s_X9_copy_4 ?_
              | refine s_X9_copy_11 ?_
              | refine s_X9_copy_14 ?_
              | refine s_X9_copy_16 ?_
              | refine s_X9_copy_26 ?_
              | refine s_X9_copy_27 ?_
              | refine s_X9_copy_45 ?_
              | refine s_X9_copy_50 ?_
              | refine s_X9_copy_51 ?_
              | refine s_X9_copy_95 ?_
              | refine s_X9_copy_100 ?_
              | refine s_X9_copy_101 ?_
              | refine s_X9_copy_126 ?_
              | refine s_X9_copy_133 ?_
              | refine s_X9_copy_171 ?_
              simp (disch := omega) only [B_X9_copy_0, wi_iload_n, wi_invokestatic, B_X9_copy_4, wi_if_eq, B_X9_copy_11, wi_if_ne, B_X9_copy_14, wi_iconst, wi_ireturn, B_X9_copy_16, wi_iload, wi_if_ge, wi_aload_n, wi_invokevirtual, cnt_8, B_X9_copy_26, B_X9_copy_27, wi_getfield, fldv_8_5, fds_8_5, wi_iaload, wi_if_lt, cnt_31, aTy_31, aLn_31, arr_31, cnt_32, aTy_32, aLn_32, arr_32, cnt_33, aTy_33, aLn_33, arr_33, B_X9_copy_45, B_X9_copy_50, B_X9_copy_51, wi_i2l, wi_ladd, wi_lcmp, wi_if_gt, wi_if_le, B_X9_copy_95, B_X9_copy_100, B_X9_copy_101, wi_istore, B_X9_copy_104, wi_icmp_ge, fldv_8_7, fds_8_7, wi_iadd, B_X9_copy_126, wi_iastore, wi_iinc, wi_goto, B_X9_copy_133, B_X9_copy_136, fldv_8_6, fds_8_6, wi_bipush, wi_imul, B_X9_copy_171, no0, no1, nz1, nz2, nz3, nz4, nz5, nz7, nz8, Classical.not_not, bz0, bz1, wi_nil, ld_0, ld_s, isIv_I, isLv_L, isRv_R, true_and, and_true, lset_0, lset_1, lset_s, avw_I, avw_L, avw_R, clr_cons, clr_nil, kst_0, kst_1, kstL_0, kstL_1, addk_I, pA_0, pA_s, pD_0, pD_s, wid_nil, wid_cons, rcv_c, putv_I, putv_L, List.length_cons, List.length_nil, List.set_cons_zero, List.set_cons_succ, not_false_eq_true, Nat.reduceMod, Nat.reduceDiv, Nat.reduceEqDiff, Nat.reduceLT, Nat.reduceLeDiff, Nat.reduceAdd, Nat.reduceSub, reduceIte, Nat.lt_irrefl, Nat.zero_ne_one, Nat.one_ne_zero, Nat.zero_add, List.nil_append, List.cons_append, Option.toList_some, Option.toList_none, forall_const, false_implies, true_implies, false_or, or_false, true_or, or_true, i_le, i_lt, i_eq, i_eq0, i_lt0, i_0le, i_0lt, i_le0, i_in1, i_cl, nI_add, pk_mul, pk_sub, i_div, i_rem, i_sh1, i_bit, i_or, i_and, i_andn, nt_le, nf_le, nt_lt, nf_lt, nt_eq, nf_eq, not_true_eq_false, and_self, and_false, false_and, eq_self, Bool.toNat_true, Bool.toNat_false, i_bool, i_bool1, Bool.false_eq_true, Bool.true_eq_false, reduceCtorEq, i_neg1, i_neg2, i_neg3, i_neg4, i_neg5, i_neg6, i_neg7, i_neg8, i_neg9, i_nega, i_negb, i_negc, i_max2, i_min2])
            refine c_mRow ?_
            try simp (disch := omega) only [no0, no1, nz1, nz2, nz3, nz4, nz5, nz7, nz8, Classical.not_not, bz0, bz1, wi_nil, ld_0, ld_s, isIv_I, isLv_L, isRv_R, true_and, and_true, lset_0, lset_1, lset_s, avw_I, avw_L, avw_R, clr_cons, clr_nil, kst_0, kst_1, kstL_0, kstL_1, addk_I, pA_0, pA_s, pD_0, pD_s, wid_nil, wid_cons, rcv_c, putv_I, putv_L, List.length_cons, List.length_nil, List.set_cons_zero, List.set_cons_succ, not_false_eq_true, Nat.reduceMod, Nat.reduceDiv, Nat.reduceEqDiff, Nat.reduceLT, Nat.reduceLeDiff, Nat.reduceAdd, Nat.reduceSub, reduceIte, Nat.lt_irrefl, Nat.zero_ne_one, Nat.one_ne_zero, Nat.zero_add, List.nil_append, List.cons_append, Option.toList_some, Option.toList_none, forall_const, false_implies, true_implies, false_or, or_false, true_or, or_true, i_le, i_lt, i_eq, i_eq0, i_lt0, i_0le, i_0lt, i_le0, i_in1, i_cl, nI_add, pk_mul, pk_sub, i_div, i_rem, i_sh1, i_bit, i_or, i_and, i_andn, nt_le, nf_le, nt_lt, nf_lt, nt_eq, nf_eq, not_true_eq_false, and_self, and_false, false_and, eq_self, Bool.toNat_true, Bool.toNat_false, i_bool, i_bool1, Bool.false_eq_true, Bool.true_eq_false, reduceCtorEq, i_neg1, i_neg2, i_neg3, i_neg4, i_neg5, i_neg6, i_neg7, i_neg8, i_neg9, i_nega, i_negb, i_negc, i_max2, i_min2, hr, wi_nil]
            repeat (
              first
              | refine s_X9_copy_0 ?_
              | refine s_X9_copy_4 ?_
              | refine s_X9_copy_11 ?_
              | refine s_X9_copy_14 ?_
              | refine s_X9_copy_16 ?_
              | refine s_X9_copy_26 ?_
              | refine s_X9_copy_27 ?_
              | refine s_X9_copy_45 ?_
              | refine s_X9_copy_50 ?_
              | refine s_X9_copy_51 ?_
              | refine s_X9_copy_95 ?_
              | refine s_X9_copy_100 ?_
              | refine s_X9_copy_101 ?_
              | refine s_X9_copy_126 ?_
              | refine s_X9_copy_133 ?_
              | refine s_X9_copy_171 ?_
              simp (disch := omega) only [B_X9_copy_0, wi_iload_n, wi_invokestatic, B_X9_copy_4, wi_if_eq, B_X9_copy_11, wi_if_ne, B_X9_copy_14, wi_iconst, wi_ireturn, B_X9_copy_16, wi_iload, wi_if_ge, wi_aload_n, wi_invokevirtual, cnt_8, B_X9_copy_26, B_X9_copy_27, wi_getfield, fldv_8_5, fds_8_5, wi_iaload, wi_if_lt, cnt_31, aTy_31, aLn_31, arr_31, cnt_32, aTy_32, aLn_32, arr_32, cnt_33, aTy_33, aLn_33, arr_33, B_X9_copy_45, B_X9_copy_50, B_X9_copy_51, wi_i2l, wi_ladd, wi_lcmp, wi_if_gt, wi_if_le, B_X9_copy_95, B_X9_copy_100, B_X9_copy_101, wi_istore, B_X9_copy_104, wi_icmp_ge, fldv_8_7, fds_8_7, wi_iadd, B_X9_copy_126, wi_iastore, wi_iinc, wi_goto, B_X9_copy_133, B_X9_copy_136, fldv_8_6, fds_8_6, wi_bipush, wi_imul, B_X9_copy_171, no0, no1, nz1, nz2, nz3, nz4, nz5, nz7, nz8, Classical.not_not, bz0, bz1, wi_nil, ld_0, ld_s, isIv_I, isLv_L, isRv_R, true_and, and_true, lset_0, lset_1, lset_s, avw_I, avw_L, avw_R, clr_cons, clr_nil, kst_0, kst_1, kstL_0, kstL_1, addk_I, pA_0, pA_s, pD_0, pD_s, wid_nil, wid_cons, rcv_c, putv_I, putv_L, List.length_cons, List.length_nil, List.set_cons_zero, List.set_cons_succ, not_false_eq_true, Nat.reduceMod, Nat.reduceDiv, Nat.reduceEqDiff, Nat.reduceLT, Nat.reduceLeDiff, Nat.reduceAdd, Nat.reduceSub, reduceIte, Nat.lt_irrefl, Nat.zero_ne_one, Nat.one_ne_zero, Nat.zero_add, List.nil_append, List.cons_append, Option.toList_some, Option.toList_none, forall_const, false_implies, true_implies, false_or, or_false, true_or, or_true, i_le, i_lt, i_eq, i_eq0, i_lt0, i_0le, i_0lt, i_le0, i_in1, i_cl, nI_add, pk_mul, pk_sub, i_div, i_rem, i_sh1, i_bit, i_or, i_and, i_andn, nt_le, nf_le, nt_lt, nf_lt, nt_eq, nf_eq, not_true_eq_false, and_self, and_false, false_and, eq_self, Bool.toNat_true, Bool.toNat_false, i_bool, i_bool1, Bool.false_eq_true, Bool.true_eq_false, reduceCtorEq, i_neg1, i_neg2, i_neg3, i_neg4, i_neg5, i_neg6, i_neg7, i_neg8, i_neg9, i_nega, i_negb, i_negc, i_max2, i_min2, hr])
            refine c_mRow ?_
            try simp (disch := omega) only [no0, no1, nz1, nz2, nz3, nz4, nz5, nz7, nz8, Classical.not_not, bz0, bz1, wi_nil, ld_0, ld_s, isIv_I, isLv_L, isRv_R, true_and, and_true, lset_0, lset_1, lset_s, avw_I, avw_L, avw_R, clr_cons, clr_nil, kst_0, kst_1, kstL_0, kstL_1, addk_I, pA_0, pA_s, pD_0, pD_s, wid_nil, wid_cons, rcv_c, putv_I, putv_L, List.length_cons, List.length_nil, List.set_cons_zero, List.set_cons_succ, not_false_eq_true, Nat.reduceMod, Nat.reduceDiv, Nat.reduceEqDiff, Nat.reduceLT, Nat.reduceLeDiff, Nat.reduceAdd, Nat.reduceSub, reduceIte, Nat.lt_irrefl, Nat.zero_ne_one, Nat.one_ne_zero, Nat.zero_add, List.nil_append, List.cons_append, Option.toList_some, Option.toList_none, forall_const, false_implies, true_implies, false_or, or_false, true_or, or_true, i_le, i_lt, i_eq, i_eq0, i_lt0, i_0le, i_0lt, i_le0, i_in1, i_cl, nI_add, pk_mul, pk_sub, i_div, i_rem, i_sh1, i_bit, i_or, i_and, i_andn, nt_le, nf_le, nt_lt, nf_lt, nt_eq, nf_eq, not_true_eq_false, and_self, and_false, false_and, eq_self, Bool.toNat_true, Bool.toNat_false, i_bool, i_bool1, Bool.false_eq_true, Bool.true_eq_false, reduceCtorEq, i_neg1, i_neg2, i_neg3, i_neg4, i_neg5, i_neg6, i_neg7, i_neg8, i_neg9, i_nega, i_negb, i_negc, i_max2, i_min2, ht, hn1, (show gA (xRef 1 S) 31 0 r0 = nI z from hsr), (show gA (xRef 1 S) 31 0 t0 = -nI 1 from hst), wi_nil]
            repeat (
              first
              | refine s_X9_copy_0 ?_
              | refine s_X9_copy_4 ?_
              | refine s_X9_copy_11 ?_
              | refine s_X9_copy_14 ?_
              | refine s_X9_copy_16 ?_
              | refine s_X9_copy_26 ?_
              | refine s_X9_copy_27 ?_
              | refine s_X9_copy_45 ?_
              | refine s_X9_copy_50 ?_
              | refine s_X9_copy_51 ?_
              | refine s_X9_copy_95 ?_
              | refine s_X9_copy_100 ?_
              | refine s_X9_copy_101 ?_
              | refine s_X9_copy_126 ?_
              | refine s_X9_copy_133 ?_
              | refine s_X9_copy_171 ?_
              simp (disch := omega) only [B_X9_copy_0, wi_iload_n, wi_invokestatic, B_X9_copy_4, wi_if_eq, B_X9_copy_11, wi_if_ne, B_X9_copy_14, wi_iconst, wi_ireturn, B_X9_copy_16, wi_iload, wi_if_ge, wi_aload_n, wi_invokevirtual, cnt_8, B_X9_copy_26, B_X9_copy_27, wi_getfield, fldv_8_5, fds_8_5, wi_iaload, wi_if_lt, cnt_31, aTy_31, aLn_31, arr_31, cnt_32, aTy_32, aLn_32, arr_32, cnt_33, aTy_33, aLn_33, arr_33, B_X9_copy_45, B_X9_copy_50, B_X9_copy_51, wi_i2l, wi_ladd, wi_lcmp, wi_if_gt, wi_if_le, B_X9_copy_95, B_X9_copy_100, B_X9_copy_101, wi_istore, B_X9_copy_104, wi_icmp_ge, fldv_8_7, fds_8_7, wi_iadd, B_X9_copy_126, wi_iastore, wi_iinc, wi_goto, B_X9_copy_133, B_X9_copy_136, fldv_8_6, fds_8_6, wi_bipush, wi_imul, B_X9_copy_171, no0, no1, nz1, nz2, nz3, nz4, nz5, nz7, nz8, Classical.not_not, bz0, bz1, wi_nil, ld_0, ld_s, isIv_I, isLv_L, isRv_R, true_and, and_true, lset_0, lset_1, lset_s, avw_I, avw_L, avw_R, clr_cons, clr_nil, kst_0, kst_1, kstL_0, kstL_1, addk_I, pA_0, pA_s, pD_0, pD_s, wid_nil, wid_cons, rcv_c, putv_I, putv_L, List.length_cons, List.length_nil, List.set_cons_zero, List.set_cons_succ, not_false_eq_true, Nat.reduceMod, Nat.reduceDiv, Nat.reduceEqDiff, Nat.reduceLT, Nat.reduceLeDiff, Nat.reduceAdd, Nat.reduceSub, reduceIte, Nat.lt_irrefl, Nat.zero_ne_one, Nat.one_ne_zero, Nat.zero_add, List.nil_append, List.cons_append, Option.toList_some, Option.toList_none, forall_const, false_implies, true_implies, false_or, or_false, true_or, or_true, i_le, i_lt, i_eq, i_eq0, i_lt0, i_0le, i_0lt, i_le0, i_in1, i_cl, nI_add, pk_mul, pk_sub, i_div, i_rem, i_sh1, i_bit, i_or, i_and, i_andn, nt_le, nf_le, nt_lt, nf_lt, nt_eq, nf_eq, not_true_eq_false, and_self, and_false, false_and, eq_self, Bool.toNat_true, Bool.toNat_false, i_bool, i_bool1, Bool.false_eq_true, Bool.true_eq_false, reduceCtorEq, i_neg1, i_neg2, i_neg3, i_neg4, i_neg5, i_neg6, i_neg7, i_neg8, i_neg9, i_nega, i_negb, i_negc, i_max2, i_min2, ht, hn1, (show gA (xRef 1 S) 31 0 r0 = nI z from hsr), (show gA (xRef 1 S) 31 0 t0 = -nI 1 from hst)])
            refine c_meets (by decide) ?_
            try simp (disch := omega) only [no0, no1, nz1, nz2, nz3, nz4, nz5, nz7, nz8, Classical.not_not, bz0, bz1, wi_nil, ld_0, ld_s, isIv_I, isLv_L, isRv_R, true_and, and_true, lset_0, lset_1, lset_s, avw_I, avw_L, avw_R, clr_cons, clr_nil, kst_0, kst_1, kstL_0, kstL_1, addk_I, pA_0, pA_s, pD_0, pD_s, wid_nil, wid_cons, rcv_c, putv_I, putv_L, List.length_cons, List.length_nil, List.set_cons_zero, List.set_cons_succ, not_false_eq_true, Nat.reduceMod, Nat.reduceDiv, Nat.reduceEqDiff, Nat.reduceLT, Nat.reduceLeDiff, Nat.reduceAdd, Nat.reduceSub, reduceIte, Nat.lt_irrefl, Nat.zero_ne_one, Nat.one_ne_zero, Nat.zero_add, List.nil_append, List.cons_append, Option.toList_some, Option.toList_none, forall_const, false_implies, true_implies, false_or, or_false, true_or, or_true, i_le, i_lt, i_eq, i_eq0, i_lt0, i_0le, i_0lt, i_le0, i_in1, i_cl, nI_add, pk_mul, pk_sub, i_div, i_rem, i_sh1, i_bit, i_or, i_and, i_andn, nt_le, nf_le, nt_lt, nf_lt, nt_eq, nf_eq, not_true_eq_false, and_self, and_false, false_and, eq_self, Bool.toNat_true, Bool.toNat_false, i_bool, i_bool1, Bool.false_eq_true, Bool.true_eq_false, reduceCtorEq, i_neg1, i_neg2, i_neg3, i_neg4, i_neg5, i_neg6, i_neg7, i_neg8, i_neg9, i_nega, i_negb, i_negc, i_max2, i_min2, wi_nil]
            repeat (
              first
              | refine s_X9_copy_0 ?_
              | refine s_X9_copy_4 ?_
              | refine s_X9_copy_11 ?_
              | refine s_X9_copy_14 ?_
              | refine s_X9_copy_16 ?_
              | refine s_X9_copy_26 ?_
              | refine s_X9_copy_27 ?_
              | refine s_X9_copy_45 ?_
              | refine s_X9_copy_50 ?_
              | refine s_X9_copy_51 ?_
              | refine s_X9_copy_95 ?_
              | refine s_X9_copy_100 ?_
              | refine s_X9_copy_101 ?_
              | refine s_X9_copy_126 ?_
              | refine s_X9_copy_133 ?_
              | refine s_X9_copy_171 ?_
              simp (disch := omega) only [B_X9_copy_0, wi_iload_n, wi_invokestatic, B_X9_copy_4, wi_if_eq, B_X9_copy_11, wi_if_ne, B_X9_copy_14, wi_iconst, wi_ireturn, B_X9_copy_16, wi_iload, wi_if_ge, wi_aload_n, wi_invokevirtual, cnt_8, B_X9_copy_26, B_X9_copy_27, wi_getfield, fldv_8_5, fds_8_5, wi_iaload, wi_if_lt, cnt_31, aTy_31, aLn_31, arr_31, cnt_32, aTy_32, aLn_32, arr_32, cnt_33, aTy_33, aLn_33, arr_33, B_X9_copy_45, B_X9_copy_50, B_X9_copy_51, wi_i2l, wi_ladd, wi_lcmp, wi_if_gt, wi_if_le, B_X9_copy_95, B_X9_copy_100, B_X9_copy_101, wi_istore, B_X9_copy_104, wi_icmp_ge, fldv_8_7, fds_8_7, wi_iadd, B_X9_copy_126, wi_iastore, wi_iinc, wi_goto, B_X9_copy_133, B_X9_copy_136, fldv_8_6, fds_8_6, wi_bipush, wi_imul, B_X9_copy_171, no0, no1, nz1, nz2, nz3, nz4, nz5, nz7, nz8, Classical.not_not, bz0, bz1, wi_nil, ld_0, ld_s, isIv_I, isLv_L, isRv_R, true_and, and_true, lset_0, lset_1, lset_s, avw_I, avw_L, avw_R, clr_cons, clr_nil, kst_0, kst_1, kstL_0, kstL_1, addk_I, pA_0, pA_s, pD_0, pD_s, wid_nil, wid_cons, rcv_c, putv_I, putv_L, List.length_cons, List.length_nil, List.set_cons_zero, List.set_cons_succ, not_false_eq_true, Nat.reduceMod, Nat.reduceDiv, Nat.reduceEqDiff, Nat.reduceLT, Nat.reduceLeDiff, Nat.reduceAdd, Nat.reduceSub, reduceIte, Nat.lt_irrefl, Nat.zero_ne_one, Nat.one_ne_zero, Nat.zero_add, List.nil_append, List.cons_append, Option.toList_some, Option.toList_none, forall_const, false_implies, true_implies, false_or, or_false, true_or, or_true, i_le, i_lt, i_eq, i_eq0, i_lt0, i_0le, i_0lt, i_le0, i_in1, i_cl, nI_add, pk_mul, pk_sub, i_div, i_rem, i_sh1, i_bit, i_or, i_and, i_andn, nt_le, nf_le, nt_lt, nf_lt, nt_eq, nf_eq, not_true_eq_false, and_self, and_false, false_and, eq_self, Bool.toNat_true, Bool.toNat_false, i_bool, i_bool1, Bool.false_eq_true, Bool.true_eq_false, reduceCtorEq, i_neg1, i_neg2, i_neg3, i_neg4, i_neg5, i_neg6, i_neg7, i_neg8, i_neg9, i_nega, i_negb, i_negc, i_max2, i_min2])
            exact pm (r_ref h (by decide) Fr.refl)
          · obtain ⟨y, hzt⟩ : ∃ y, rs t0 = y + 1 := ⟨rs t0 - 1, by omega⟩
            rw [hzt, sz_s] at hst
            have hzi : (nI z).toInt = (z : Int) := nI_toInt (by omega)
            have hyi : (nI y).toInt = (y : Int) := nI_toInt (by omega)
            have hri := fb_rng i
            have hrj := fb_rng j
            by_cases both : hpB i n z = true ∧ hpB j n y = true
            · have b1 := of_decide_eq_true both.1
              have b2 := of_decide_eq_true both.2
              obtain ⟨i0, hi0, rfl⟩ : ∃ i0 : Nat, (i0 : Int) = i.toInt ∧ i = nI i0 := ⟨i.toInt.toNat, by omega, Int32.toInt_inj.mp (by rw [nI_toInt (by omega)]; omega)⟩
              obtain ⟨j0, hj0, rfl⟩ : ∃ i0 : Nat, (i0 : Int) = j.toInt ∧ j = nI i0 := ⟨j.toInt.toNat, by omega, Int32.toInt_inj.mp (by rw [nI_toInt (by omega)]; omega)⟩
              obtain ⟨n0, hnn, rfl⟩ : ∃ i0 : Nat, (i0 : Int) = n.toInt ∧ n = nI i0 := ⟨n.toInt.toNat, by omega, Int32.toInt_inj.mp (by rw [nI_toInt (by omega)]; omega)⟩
              have c1 : i0 + n0 ≤ z := by omega
              have c2 : j0 + n0 ≤ y := by omega
              refine x_entry (ls2 := [aR 7 0, aI (nI r0), aI (nI i0), aI (nI t0), aI (nI j0), aI (nI n0)]) (Nat.le_of_ble_eq_true rfl) pl_8 rfl (Nat.le_of_ble_eq_true rfl) ?_
              try simp (disch := omega) only [no0, no1, nz1, nz2, nz3, nz4, nz5, nz7, nz8, Classical.not_not, bz0, bz1, wi_nil, ld_0, ld_s, isIv_I, isLv_L, isRv_R, true_and, and_true, lset_0, lset_1, lset_s, avw_I, avw_L, avw_R, clr_cons, clr_nil, kst_0, kst_1, kstL_0, kstL_1, addk_I, pA_0, pA_s, pD_0, pD_s, wid_nil, wid_cons, rcv_c, putv_I, putv_L, List.length_cons, List.length_nil, List.set_cons_zero, List.set_cons_succ, not_false_eq_true, Nat.reduceMod, Nat.reduceDiv, Nat.reduceEqDiff, Nat.reduceLT, Nat.reduceLeDiff, Nat.reduceAdd, Nat.reduceSub, reduceIte, Nat.lt_irrefl, Nat.zero_ne_one, Nat.one_ne_zero, Nat.zero_add, List.nil_append, List.cons_append, Option.toList_some, Option.toList_none, forall_const, false_implies, true_implies, false_or, or_false, true_or, or_true, i_le, i_lt, i_eq, i_eq0, i_lt0, i_0le, i_0lt, i_le0, i_in1, i_cl, nI_add, pk_mul, pk_sub, i_div, i_rem, i_sh1, i_bit, i_or, i_and, i_andn, nt_le, nf_le, nt_lt, nf_lt, nt_eq, nf_eq, not_true_eq_false, and_self, and_false, false_and, eq_self, Bool.toNat_true, Bool.toNat_false, i_bool, i_bool1, Bool.false_eq_true, Bool.true_eq_false, reduceCtorEq, i_neg1, i_neg2, i_neg3, i_neg4, i_neg5, i_neg6, i_neg7, i_neg8, i_neg9, i_nega, i_negb, i_negc, i_max2, i_min2, wi_nil]
              repeat (
                first
                | refine s_X8_copy_0 ?_
                | refine s_X8_copy_4 ?_
                | refine s_X8_copy_11 ?_
                | refine s_X8_copy_14 ?_
                | refine s_X8_copy_16 ?_
                | refine s_X8_copy_26 ?_
                | refine s_X8_copy_27 ?_
                | refine s_X8_copy_35 ?_
                | refine s_X8_copy_46 ?_
                | refine s_X8_copy_49 ?_
                | refine s_X8_copy_54 ?_
                | refine s_X8_copy_55 ?_
                | refine s_X8_copy_66 ?_
                | refine s_X8_copy_81 ?_
                | refine s_X8_copy_84 ?_
                | refine s_X8_copy_89 ?_
                | refine s_X8_copy_90 ?_
                | refine s_X8_copy_104 ?_
                simp (disch := omega) only [B_X8_copy_0, wi_iload_n, wi_invokestatic, B_X8_copy_4, wi_if_eq, B_X8_copy_11, wi_if_ne, B_X8_copy_14, wi_iconst, wi_ireturn, B_X8_copy_16, wi_iload, wi_if_ge, wi_aload_n, wi_invokevirtual, cnt_7, B_X8_copy_26, B_X8_copy_27, wi_getfield, fldv_7_0, fds_7_0, cnt_3, B_X8_copy_35, B_X8_copy_46, B_X8_copy_49, B_X8_copy_54, B_X8_copy_55, B_X8_copy_66, B_X8_copy_81, B_X8_copy_84, B_X8_copy_89, B_X8_copy_90, B_X8_copy_104, no0, no1, nz1, nz2, nz3, nz4, nz5, nz7, nz8, Classical.not_not, bz0, bz1, wi_nil, ld_0, ld_s, isIv_I, isLv_L, isRv_R, true_and, and_true, lset_0, lset_1, lset_s, avw_I, avw_L, avw_R, clr_cons, clr_nil, kst_0, kst_1, kstL_0, kstL_1, addk_I, pA_0, pA_s, pD_0, pD_s, wid_nil, wid_cons, rcv_c, putv_I, putv_L, List.length_cons, List.length_nil, List.set_cons_zero, List.set_cons_succ, not_false_eq_true, Nat.reduceMod, Nat.reduceDiv, Nat.reduceEqDiff, Nat.reduceLT, Nat.reduceLeDiff, Nat.reduceAdd, Nat.reduceSub, reduceIte, Nat.lt_irrefl, Nat.zero_ne_one, Nat.one_ne_zero, Nat.zero_add, List.nil_append, List.cons_append, Option.toList_some, Option.toList_none, forall_const, false_implies, true_implies, false_or, or_false, true_or, or_true, i_le, i_lt, i_eq, i_eq0, i_lt0, i_0le, i_0lt, i_le0, i_in1, i_cl, nI_add, pk_mul, pk_sub, i_div, i_rem, i_sh1, i_bit, i_or, i_and, i_andn, nt_le, nf_le, nt_lt, nf_lt, nt_eq, nf_eq, not_true_eq_false, and_self, and_false, false_and, eq_self, Bool.toNat_true, Bool.toNat_false, i_bool, i_bool1, Bool.false_eq_true, Bool.true_eq_false, reduceCtorEq, i_neg1, i_neg2, i_neg3, i_neg4, i_neg5, i_neg6, i_neg7, i_neg8, i_neg9, i_nega, i_negb, i_negc, i_max2, i_min2])
              refine c_isRow ?_
              try simp (disch := omega) only [no0, no1, nz1, nz2, nz3, nz4, nz5, nz7, nz8, Classical.not_not, bz0, bz1, wi_nil, ld_0, ld_s, isIv_I, isLv_L, isRv_R, true_and, and_true, lset_0, lset_1, lset_s, avw_I, avw_L, avw_R, clr_cons, clr_nil, kst_0, kst_1, kstL_0, kstL_1, addk_I, pA_0, pA_s, pD_0, pD_s, wid_nil, wid_cons, rcv_c, putv_I, putv_L, List.length_cons, List.length_nil, List.set_cons_zero, List.set_cons_succ, not_false_eq_true, Nat.reduceMod, Nat.reduceDiv, Nat.reduceEqDiff, Nat.reduceLT, Nat.reduceLeDiff, Nat.reduceAdd, Nat.reduceSub, reduceIte, Nat.lt_irrefl, Nat.zero_ne_one, Nat.one_ne_zero, Nat.zero_add, List.nil_append, List.cons_append, Option.toList_some, Option.toList_none, forall_const, false_implies, true_implies, false_or, or_false, true_or, or_true, i_le, i_lt, i_eq, i_eq0, i_lt0, i_0le, i_0lt, i_le0, i_in1, i_cl, nI_add, pk_mul, pk_sub, i_div, i_rem, i_sh1, i_bit, i_or, i_and, i_andn, nt_le, nf_le, nt_lt, nf_lt, nt_eq, nf_eq, not_true_eq_false, and_self, and_false, false_and, eq_self, Bool.toNat_true, Bool.toNat_false, i_bool, i_bool1, Bool.false_eq_true, Bool.true_eq_false, reduceCtorEq, i_neg1, i_neg2, i_neg3, i_neg4, i_neg5, i_neg6, i_neg7, i_neg8, i_neg9, i_nega, i_negb, i_negc, i_max2, i_min2, hr, wi_nil]
              repeat (
                first
                | refine s_X8_copy_0 ?_
                | refine s_X8_copy_4 ?_
                | refine s_X8_copy_11 ?_
                | refine s_X8_copy_14 ?_
                | refine s_X8_copy_16 ?_
                | refine s_X8_copy_26 ?_
                | refine s_X8_copy_27 ?_
                | refine s_X8_copy_35 ?_
                | refine s_X8_copy_46 ?_
                | refine s_X8_copy_49 ?_
                | refine s_X8_copy_54 ?_
                | refine s_X8_copy_55 ?_
                | refine s_X8_copy_66 ?_
                | refine s_X8_copy_81 ?_
                | refine s_X8_copy_84 ?_
                | refine s_X8_copy_89 ?_
                | refine s_X8_copy_90 ?_
                | refine s_X8_copy_104 ?_
                simp (disch := omega) only [B_X8_copy_0, wi_iload_n, wi_invokestatic, B_X8_copy_4, wi_if_eq, B_X8_copy_11, wi_if_ne, B_X8_copy_14, wi_iconst, wi_ireturn, B_X8_copy_16, wi_iload, wi_if_ge, wi_aload_n, wi_invokevirtual, cnt_7, B_X8_copy_26, B_X8_copy_27, wi_getfield, fldv_7_0, fds_7_0, cnt_3, B_X8_copy_35, B_X8_copy_46, B_X8_copy_49, B_X8_copy_54, B_X8_copy_55, B_X8_copy_66, B_X8_copy_81, B_X8_copy_84, B_X8_copy_89, B_X8_copy_90, B_X8_copy_104, no0, no1, nz1, nz2, nz3, nz4, nz5, nz7, nz8, Classical.not_not, bz0, bz1, wi_nil, ld_0, ld_s, isIv_I, isLv_L, isRv_R, true_and, and_true, lset_0, lset_1, lset_s, avw_I, avw_L, avw_R, clr_cons, clr_nil, kst_0, kst_1, kstL_0, kstL_1, addk_I, pA_0, pA_s, pD_0, pD_s, wid_nil, wid_cons, rcv_c, putv_I, putv_L, List.length_cons, List.length_nil, List.set_cons_zero, List.set_cons_succ, not_false_eq_true, Nat.reduceMod, Nat.reduceDiv, Nat.reduceEqDiff, Nat.reduceLT, Nat.reduceLeDiff, Nat.reduceAdd, Nat.reduceSub, reduceIte, Nat.lt_irrefl, Nat.zero_ne_one, Nat.one_ne_zero, Nat.zero_add, List.nil_append, List.cons_append, Option.toList_some, Option.toList_none, forall_const, false_implies, true_implies, false_or, or_false, true_or, or_true, i_le, i_lt, i_eq, i_eq0, i_lt0, i_0le, i_0lt, i_le0, i_in1, i_cl, nI_add, pk_mul, pk_sub, i_div, i_rem, i_sh1, i_bit, i_or, i_and, i_andn, nt_le, nf_le, nt_lt, nf_lt, nt_eq, nf_eq, not_true_eq_false, and_self, and_false, false_and, eq_self, Bool.toNat_true, Bool.toNat_false, i_bool, i_bool1, Bool.false_eq_true, Bool.true_eq_false, reduceCtorEq, i_neg1, i_neg2, i_neg3, i_neg4, i_neg5, i_neg6, i_neg7, i_neg8, i_neg9, i_nega, i_negb, i_negc, i_max2, i_min2, hr])
              refine c_isRow ?_
              try simp (disch := omega) only [no0, no1, nz1, nz2, nz3, nz4, nz5, nz7, nz8, Classical.not_not, bz0, bz1, wi_nil, ld_0, ld_s, isIv_I, isLv_L, isRv_R, true_and, and_true, lset_0, lset_1, lset_s, avw_I, avw_L, avw_R, clr_cons, clr_nil, kst_0, kst_1, kstL_0, kstL_1, addk_I, pA_0, pA_s, pD_0, pD_s, wid_nil, wid_cons, rcv_c, putv_I, putv_L, List.length_cons, List.length_nil, List.set_cons_zero, List.set_cons_succ, not_false_eq_true, Nat.reduceMod, Nat.reduceDiv, Nat.reduceEqDiff, Nat.reduceLT, Nat.reduceLeDiff, Nat.reduceAdd, Nat.reduceSub, reduceIte, Nat.lt_irrefl, Nat.zero_ne_one, Nat.one_ne_zero, Nat.zero_add, List.nil_append, List.cons_append, Option.toList_some, Option.toList_none, forall_const, false_implies, true_implies, false_or, or_false, true_or, or_true, i_le, i_lt, i_eq, i_eq0, i_lt0, i_0le, i_0lt, i_le0, i_in1, i_cl, nI_add, pk_mul, pk_sub, i_div, i_rem, i_sh1, i_bit, i_or, i_and, i_andn, nt_le, nf_le, nt_lt, nf_lt, nt_eq, nf_eq, not_true_eq_false, and_self, and_false, false_and, eq_self, Bool.toNat_true, Bool.toNat_false, i_bool, i_bool1, Bool.false_eq_true, Bool.true_eq_false, reduceCtorEq, i_neg1, i_neg2, i_neg3, i_neg4, i_neg5, i_neg6, i_neg7, i_neg8, i_neg9, i_nega, i_negb, i_negc, i_max2, i_min2, ht, wi_nil]
              repeat (
                first
                | refine s_X8_copy_0 ?_
                | refine s_X8_copy_4 ?_
                | refine s_X8_copy_11 ?_
                | refine s_X8_copy_14 ?_
                | refine s_X8_copy_16 ?_
                | refine s_X8_copy_26 ?_
                | refine s_X8_copy_27 ?_
                | refine s_X8_copy_35 ?_
                | refine s_X8_copy_46 ?_
                | refine s_X8_copy_49 ?_
                | refine s_X8_copy_54 ?_
                | refine s_X8_copy_55 ?_
                | refine s_X8_copy_66 ?_
                | refine s_X8_copy_81 ?_
                | refine s_X8_copy_84 ?_
                | refine s_X8_copy_89 ?_
                | refine s_X8_copy_90 ?_
                | refine s_X8_copy_104 ?_
                simp (disch := omega) only [B_X8_copy_0, wi_iload_n, wi_invokestatic, B_X8_copy_4, wi_if_eq, B_X8_copy_11, wi_if_ne, B_X8_copy_14, wi_iconst, wi_ireturn, B_X8_copy_16, wi_iload, wi_if_ge, wi_aload_n, wi_invokevirtual, cnt_7, B_X8_copy_26, B_X8_copy_27, wi_getfield, fldv_7_0, fds_7_0, cnt_3, B_X8_copy_35, B_X8_copy_46, B_X8_copy_49, B_X8_copy_54, B_X8_copy_55, B_X8_copy_66, B_X8_copy_81, B_X8_copy_84, B_X8_copy_89, B_X8_copy_90, B_X8_copy_104, no0, no1, nz1, nz2, nz3, nz4, nz5, nz7, nz8, Classical.not_not, bz0, bz1, wi_nil, ld_0, ld_s, isIv_I, isLv_L, isRv_R, true_and, and_true, lset_0, lset_1, lset_s, avw_I, avw_L, avw_R, clr_cons, clr_nil, kst_0, kst_1, kstL_0, kstL_1, addk_I, pA_0, pA_s, pD_0, pD_s, wid_nil, wid_cons, rcv_c, putv_I, putv_L, List.length_cons, List.length_nil, List.set_cons_zero, List.set_cons_succ, not_false_eq_true, Nat.reduceMod, Nat.reduceDiv, Nat.reduceEqDiff, Nat.reduceLT, Nat.reduceLeDiff, Nat.reduceAdd, Nat.reduceSub, reduceIte, Nat.lt_irrefl, Nat.zero_ne_one, Nat.one_ne_zero, Nat.zero_add, List.nil_append, List.cons_append, Option.toList_some, Option.toList_none, forall_const, false_implies, true_implies, false_or, or_false, true_or, or_true, i_le, i_lt, i_eq, i_eq0, i_lt0, i_0le, i_0lt, i_le0, i_in1, i_cl, nI_add, pk_mul, pk_sub, i_div, i_rem, i_sh1, i_bit, i_or, i_and, i_andn, nt_le, nf_le, nt_lt, nf_lt, nt_eq, nf_eq, not_true_eq_false, and_self, and_false, false_and, eq_self, Bool.toNat_true, Bool.toNat_false, i_bool, i_bool1, Bool.false_eq_true, Bool.true_eq_false, reduceCtorEq, i_neg1, i_neg2, i_neg3, i_neg4, i_neg5, i_neg6, i_neg7, i_neg8, i_neg9, i_nega, i_negb, i_negc, i_max2, i_min2, ht])
              refine c_Rthere h1.1 hr0 ?_
              rw [if_neg hz]
              try simp (disch := omega) only [no0, no1, nz1, nz2, nz3, nz4, nz5, nz7, nz8, Classical.not_not, bz0, bz1, wi_nil, ld_0, ld_s, isIv_I, isLv_L, isRv_R, true_and, and_true, lset_0, lset_1, lset_s, avw_I, avw_L, avw_R, clr_cons, clr_nil, kst_0, kst_1, kstL_0, kstL_1, addk_I, pA_0, pA_s, pD_0, pD_s, wid_nil, wid_cons, rcv_c, putv_I, putv_L, List.length_cons, List.length_nil, List.set_cons_zero, List.set_cons_succ, not_false_eq_true, Nat.reduceMod, Nat.reduceDiv, Nat.reduceEqDiff, Nat.reduceLT, Nat.reduceLeDiff, Nat.reduceAdd, Nat.reduceSub, reduceIte, Nat.lt_irrefl, Nat.zero_ne_one, Nat.one_ne_zero, Nat.zero_add, List.nil_append, List.cons_append, Option.toList_some, Option.toList_none, forall_const, false_implies, true_implies, false_or, or_false, true_or, or_true, i_le, i_lt, i_eq, i_eq0, i_lt0, i_0le, i_0lt, i_le0, i_in1, i_cl, nI_add, pk_mul, pk_sub, i_div, i_rem, i_sh1, i_bit, i_or, i_and, i_andn, nt_le, nf_le, nt_lt, nf_lt, nt_eq, nf_eq, not_true_eq_false, and_self, and_false, false_and, eq_self, Bool.toNat_true, Bool.toNat_false, i_bool, i_bool1, Bool.false_eq_true, Bool.true_eq_false, reduceCtorEq, i_neg1, i_neg2, i_neg3, i_neg4, i_neg5, i_neg6, i_neg7, i_neg8, i_neg9, i_nega, i_negb, i_negc, i_max2, i_min2, wi_nil]
              repeat (
                first
                | refine s_X8_copy_0 ?_
                | refine s_X8_copy_4 ?_
                | refine s_X8_copy_11 ?_
                | refine s_X8_copy_14 ?_
                | refine s_X8_copy_16 ?_
                | refine s_X8_copy_26 ?_
                | refine s_X8_copy_27 ?_
                | refine s_X8_copy_35 ?_
                | refine s_X8_copy_46 ?_
                | refine s_X8_copy_49 ?_
                | refine s_X8_copy_54 ?_
                | refine s_X8_copy_55 ?_
                | refine s_X8_copy_66 ?_
                | refine s_X8_copy_81 ?_
                | refine s_X8_copy_84 ?_
                | refine s_X8_copy_89 ?_
                | refine s_X8_copy_90 ?_
                | refine s_X8_copy_104 ?_
                simp (disch := omega) only [B_X8_copy_0, wi_iload_n, wi_invokestatic, B_X8_copy_4, wi_if_eq, B_X8_copy_11, wi_if_ne, B_X8_copy_14, wi_iconst, wi_ireturn, B_X8_copy_16, wi_iload, wi_if_ge, wi_aload_n, wi_invokevirtual, cnt_7, B_X8_copy_26, B_X8_copy_27, wi_getfield, fldv_7_0, fds_7_0, cnt_3, B_X8_copy_35, B_X8_copy_46, B_X8_copy_49, B_X8_copy_54, B_X8_copy_55, B_X8_copy_66, B_X8_copy_81, B_X8_copy_84, B_X8_copy_89, B_X8_copy_90, B_X8_copy_104, no0, no1, nz1, nz2, nz3, nz4, nz5, nz7, nz8, Classical.not_not, bz0, bz1, wi_nil, ld_0, ld_s, isIv_I, isLv_L, isRv_R, true_and, and_true, lset_0, lset_1, lset_s, avw_I, avw_L, avw_R, clr_cons, clr_nil, kst_0, kst_1, kstL_0, kstL_1, addk_I, pA_0, pA_s, pD_0, pD_s, wid_nil, wid_cons, rcv_c, putv_I, putv_L, List.length_cons, List.length_nil, List.set_cons_zero, List.set_cons_succ, not_false_eq_true, Nat.reduceMod, Nat.reduceDiv, Nat.reduceEqDiff, Nat.reduceLT, Nat.reduceLeDiff, Nat.reduceAdd, Nat.reduceSub, reduceIte, Nat.lt_irrefl, Nat.zero_ne_one, Nat.one_ne_zero, Nat.zero_add, List.nil_append, List.cons_append, Option.toList_some, Option.toList_none, forall_const, false_implies, true_implies, false_or, or_false, true_or, or_true, i_le, i_lt, i_eq, i_eq0, i_lt0, i_0le, i_0lt, i_le0, i_in1, i_cl, nI_add, pk_mul, pk_sub, i_div, i_rem, i_sh1, i_bit, i_or, i_and, i_andn, nt_le, nf_le, nt_lt, nf_lt, nt_eq, nf_eq, not_true_eq_false, and_self, and_false, false_and, eq_self, Bool.toNat_true, Bool.toNat_false, i_bool, i_bool1, Bool.false_eq_true, Bool.true_eq_false, reduceCtorEq, i_neg1, i_neg2, i_neg3, i_neg4, i_neg5, i_neg6, i_neg7, i_neg8, i_neg9, i_nega, i_negb, i_negc, i_max2, i_min2])
              refine c_Rthere h1.1 ht0 ?_
              rw [if_neg hz2]
              try simp (disch := omega) only [no0, no1, nz1, nz2, nz3, nz4, nz5, nz7, nz8, Classical.not_not, bz0, bz1, wi_nil, ld_0, ld_s, isIv_I, isLv_L, isRv_R, true_and, and_true, lset_0, lset_1, lset_s, avw_I, avw_L, avw_R, clr_cons, clr_nil, kst_0, kst_1, kstL_0, kstL_1, addk_I, pA_0, pA_s, pD_0, pD_s, wid_nil, wid_cons, rcv_c, putv_I, putv_L, List.length_cons, List.length_nil, List.set_cons_zero, List.set_cons_succ, not_false_eq_true, Nat.reduceMod, Nat.reduceDiv, Nat.reduceEqDiff, Nat.reduceLT, Nat.reduceLeDiff, Nat.reduceAdd, Nat.reduceSub, reduceIte, Nat.lt_irrefl, Nat.zero_ne_one, Nat.one_ne_zero, Nat.zero_add, List.nil_append, List.cons_append, Option.toList_some, Option.toList_none, forall_const, false_implies, true_implies, false_or, or_false, true_or, or_true, i_le, i_lt, i_eq, i_eq0, i_lt0, i_0le, i_0lt, i_le0, i_in1, i_cl, nI_add, pk_mul, pk_sub, i_div, i_rem, i_sh1, i_bit, i_or, i_and, i_andn, nt_le, nf_le, nt_lt, nf_lt, nt_eq, nf_eq, not_true_eq_false, and_self, and_false, false_and, eq_self, Bool.toNat_true, Bool.toNat_false, i_bool, i_bool1, Bool.false_eq_true, Bool.true_eq_false, reduceCtorEq, i_neg1, i_neg2, i_neg3, i_neg4, i_neg5, i_neg6, i_neg7, i_neg8, i_neg9, i_nega, i_negb, i_negc, i_max2, i_min2, wi_nil]
              repeat (
                first
                | refine s_X8_copy_0 ?_
                | refine s_X8_copy_4 ?_
                | refine s_X8_copy_11 ?_
                | refine s_X8_copy_14 ?_
                | refine s_X8_copy_16 ?_
                | refine s_X8_copy_26 ?_
                | refine s_X8_copy_27 ?_
                | refine s_X8_copy_35 ?_
                | refine s_X8_copy_46 ?_
                | refine s_X8_copy_49 ?_
                | refine s_X8_copy_54 ?_
                | refine s_X8_copy_55 ?_
                | refine s_X8_copy_66 ?_
                | refine s_X8_copy_81 ?_
                | refine s_X8_copy_84 ?_
                | refine s_X8_copy_89 ?_
                | refine s_X8_copy_90 ?_
                | refine s_X8_copy_104 ?_
                simp (disch := omega) only [B_X8_copy_0, wi_iload_n, wi_invokestatic, B_X8_copy_4, wi_if_eq, B_X8_copy_11, wi_if_ne, B_X8_copy_14, wi_iconst, wi_ireturn, B_X8_copy_16, wi_iload, wi_if_ge, wi_aload_n, wi_invokevirtual, cnt_7, B_X8_copy_26, B_X8_copy_27, wi_getfield, fldv_7_0, fds_7_0, cnt_3, B_X8_copy_35, B_X8_copy_46, B_X8_copy_49, B_X8_copy_54, B_X8_copy_55, B_X8_copy_66, B_X8_copy_81, B_X8_copy_84, B_X8_copy_89, B_X8_copy_90, B_X8_copy_104, no0, no1, nz1, nz2, nz3, nz4, nz5, nz7, nz8, Classical.not_not, bz0, bz1, wi_nil, ld_0, ld_s, isIv_I, isLv_L, isRv_R, true_and, and_true, lset_0, lset_1, lset_s, avw_I, avw_L, avw_R, clr_cons, clr_nil, kst_0, kst_1, kstL_0, kstL_1, addk_I, pA_0, pA_s, pD_0, pD_s, wid_nil, wid_cons, rcv_c, putv_I, putv_L, List.length_cons, List.length_nil, List.set_cons_zero, List.set_cons_succ, not_false_eq_true, Nat.reduceMod, Nat.reduceDiv, Nat.reduceEqDiff, Nat.reduceLT, Nat.reduceLeDiff, Nat.reduceAdd, Nat.reduceSub, reduceIte, Nat.lt_irrefl, Nat.zero_ne_one, Nat.one_ne_zero, Nat.zero_add, List.nil_append, List.cons_append, Option.toList_some, Option.toList_none, forall_const, false_implies, true_implies, false_or, or_false, true_or, or_true, i_le, i_lt, i_eq, i_eq0, i_lt0, i_0le, i_0lt, i_le0, i_in1, i_cl, nI_add, pk_mul, pk_sub, i_div, i_rem, i_sh1, i_bit, i_or, i_and, i_andn, nt_le, nf_le, nt_lt, nf_lt, nt_eq, nf_eq, not_true_eq_false, and_self, and_false, false_and, eq_self, Bool.toNat_true, Bool.toNat_false, i_bool, i_bool1, Bool.false_eq_true, Bool.true_eq_false, reduceCtorEq, i_neg1, i_neg2, i_neg3, i_neg4, i_neg5, i_neg6, i_neg7, i_neg8, i_neg9, i_nega, i_negb, i_negc, i_max2, i_min2])
              refine c_RhasPart h1.1 hr0 hzr (by omega) hn0 ?_
              try simp (disch := omega) only [no0, no1, nz1, nz2, nz3, nz4, nz5, nz7, nz8, Classical.not_not, bz0, bz1, wi_nil, ld_0, ld_s, isIv_I, isLv_L, isRv_R, true_and, and_true, lset_0, lset_1, lset_s, avw_I, avw_L, avw_R, clr_cons, clr_nil, kst_0, kst_1, kstL_0, kstL_1, addk_I, pA_0, pA_s, pD_0, pD_s, wid_nil, wid_cons, rcv_c, putv_I, putv_L, List.length_cons, List.length_nil, List.set_cons_zero, List.set_cons_succ, not_false_eq_true, Nat.reduceMod, Nat.reduceDiv, Nat.reduceEqDiff, Nat.reduceLT, Nat.reduceLeDiff, Nat.reduceAdd, Nat.reduceSub, reduceIte, Nat.lt_irrefl, Nat.zero_ne_one, Nat.one_ne_zero, Nat.zero_add, List.nil_append, List.cons_append, Option.toList_some, Option.toList_none, forall_const, false_implies, true_implies, false_or, or_false, true_or, or_true, i_le, i_lt, i_eq, i_eq0, i_lt0, i_0le, i_0lt, i_le0, i_in1, i_cl, nI_add, pk_mul, pk_sub, i_div, i_rem, i_sh1, i_bit, i_or, i_and, i_andn, nt_le, nf_le, nt_lt, nf_lt, nt_eq, nf_eq, not_true_eq_false, and_self, and_false, false_and, eq_self, Bool.toNat_true, Bool.toNat_false, i_bool, i_bool1, Bool.false_eq_true, Bool.true_eq_false, reduceCtorEq, i_neg1, i_neg2, i_neg3, i_neg4, i_neg5, i_neg6, i_neg7, i_neg8, i_neg9, i_nega, i_negb, i_negc, i_max2, i_min2, both.1, wi_nil]
              repeat (
                first
                | refine s_X8_copy_0 ?_
                | refine s_X8_copy_4 ?_
                | refine s_X8_copy_11 ?_
                | refine s_X8_copy_14 ?_
                | refine s_X8_copy_16 ?_
                | refine s_X8_copy_26 ?_
                | refine s_X8_copy_27 ?_
                | refine s_X8_copy_35 ?_
                | refine s_X8_copy_46 ?_
                | refine s_X8_copy_49 ?_
                | refine s_X8_copy_54 ?_
                | refine s_X8_copy_55 ?_
                | refine s_X8_copy_66 ?_
                | refine s_X8_copy_81 ?_
                | refine s_X8_copy_84 ?_
                | refine s_X8_copy_89 ?_
                | refine s_X8_copy_90 ?_
                | refine s_X8_copy_104 ?_
                simp (disch := omega) only [B_X8_copy_0, wi_iload_n, wi_invokestatic, B_X8_copy_4, wi_if_eq, B_X8_copy_11, wi_if_ne, B_X8_copy_14, wi_iconst, wi_ireturn, B_X8_copy_16, wi_iload, wi_if_ge, wi_aload_n, wi_invokevirtual, cnt_7, B_X8_copy_26, B_X8_copy_27, wi_getfield, fldv_7_0, fds_7_0, cnt_3, B_X8_copy_35, B_X8_copy_46, B_X8_copy_49, B_X8_copy_54, B_X8_copy_55, B_X8_copy_66, B_X8_copy_81, B_X8_copy_84, B_X8_copy_89, B_X8_copy_90, B_X8_copy_104, no0, no1, nz1, nz2, nz3, nz4, nz5, nz7, nz8, Classical.not_not, bz0, bz1, wi_nil, ld_0, ld_s, isIv_I, isLv_L, isRv_R, true_and, and_true, lset_0, lset_1, lset_s, avw_I, avw_L, avw_R, clr_cons, clr_nil, kst_0, kst_1, kstL_0, kstL_1, addk_I, pA_0, pA_s, pD_0, pD_s, wid_nil, wid_cons, rcv_c, putv_I, putv_L, List.length_cons, List.length_nil, List.set_cons_zero, List.set_cons_succ, not_false_eq_true, Nat.reduceMod, Nat.reduceDiv, Nat.reduceEqDiff, Nat.reduceLT, Nat.reduceLeDiff, Nat.reduceAdd, Nat.reduceSub, reduceIte, Nat.lt_irrefl, Nat.zero_ne_one, Nat.one_ne_zero, Nat.zero_add, List.nil_append, List.cons_append, Option.toList_some, Option.toList_none, forall_const, false_implies, true_implies, false_or, or_false, true_or, or_true, i_le, i_lt, i_eq, i_eq0, i_lt0, i_0le, i_0lt, i_le0, i_in1, i_cl, nI_add, pk_mul, pk_sub, i_div, i_rem, i_sh1, i_bit, i_or, i_and, i_andn, nt_le, nf_le, nt_lt, nf_lt, nt_eq, nf_eq, not_true_eq_false, and_self, and_false, false_and, eq_self, Bool.toNat_true, Bool.toNat_false, i_bool, i_bool1, Bool.false_eq_true, Bool.true_eq_false, reduceCtorEq, i_neg1, i_neg2, i_neg3, i_neg4, i_neg5, i_neg6, i_neg7, i_neg8, i_neg9, i_nega, i_negb, i_negc, i_max2, i_min2, both.1])
              refine c_RhasPart h1.1 ht0 hzt (by omega) hn0 ?_
              try simp (disch := omega) only [no0, no1, nz1, nz2, nz3, nz4, nz5, nz7, nz8, Classical.not_not, bz0, bz1, wi_nil, ld_0, ld_s, isIv_I, isLv_L, isRv_R, true_and, and_true, lset_0, lset_1, lset_s, avw_I, avw_L, avw_R, clr_cons, clr_nil, kst_0, kst_1, kstL_0, kstL_1, addk_I, pA_0, pA_s, pD_0, pD_s, wid_nil, wid_cons, rcv_c, putv_I, putv_L, List.length_cons, List.length_nil, List.set_cons_zero, List.set_cons_succ, not_false_eq_true, Nat.reduceMod, Nat.reduceDiv, Nat.reduceEqDiff, Nat.reduceLT, Nat.reduceLeDiff, Nat.reduceAdd, Nat.reduceSub, reduceIte, Nat.lt_irrefl, Nat.zero_ne_one, Nat.one_ne_zero, Nat.zero_add, List.nil_append, List.cons_append, Option.toList_some, Option.toList_none, forall_const, false_implies, true_implies, false_or, or_false, true_or, or_true, i_le, i_lt, i_eq, i_eq0, i_lt0, i_0le, i_0lt, i_le0, i_in1, i_cl, nI_add, pk_mul, pk_sub, i_div, i_rem, i_sh1, i_bit, i_or, i_and, i_andn, nt_le, nf_le, nt_lt, nf_lt, nt_eq, nf_eq, not_true_eq_false, and_self, and_false, false_and, eq_self, Bool.toNat_true, Bool.toNat_false, i_bool, i_bool1, Bool.false_eq_true, Bool.true_eq_false, reduceCtorEq, i_neg1, i_neg2, i_neg3, i_neg4, i_neg5, i_neg6, i_neg7, i_neg8, i_neg9, i_nega, i_negb, i_negc, i_max2, i_min2, both.2, wi_nil]
              repeat (
                first
                | refine s_X8_copy_0 ?_
                | refine s_X8_copy_4 ?_
                | refine s_X8_copy_11 ?_
                | refine s_X8_copy_14 ?_
                | refine s_X8_copy_16 ?_
                | refine s_X8_copy_26 ?_
                | refine s_X8_copy_27 ?_
                | refine s_X8_copy_35 ?_
                | refine s_X8_copy_46 ?_
                | refine s_X8_copy_49 ?_
                | refine s_X8_copy_54 ?_
                | refine s_X8_copy_55 ?_
                | refine s_X8_copy_66 ?_
                | refine s_X8_copy_81 ?_
                | refine s_X8_copy_84 ?_
                | refine s_X8_copy_89 ?_
                | refine s_X8_copy_90 ?_
                | refine s_X8_copy_104 ?_
                simp (disch := omega) only [B_X8_copy_0, wi_iload_n, wi_invokestatic, B_X8_copy_4, wi_if_eq, B_X8_copy_11, wi_if_ne, B_X8_copy_14, wi_iconst, wi_ireturn, B_X8_copy_16, wi_iload, wi_if_ge, wi_aload_n, wi_invokevirtual, cnt_7, B_X8_copy_26, B_X8_copy_27, wi_getfield, fldv_7_0, fds_7_0, cnt_3, B_X8_copy_35, B_X8_copy_46, B_X8_copy_49, B_X8_copy_54, B_X8_copy_55, B_X8_copy_66, B_X8_copy_81, B_X8_copy_84, B_X8_copy_89, B_X8_copy_90, B_X8_copy_104, no0, no1, nz1, nz2, nz3, nz4, nz5, nz7, nz8, Classical.not_not, bz0, bz1, wi_nil, ld_0, ld_s, isIv_I, isLv_L, isRv_R, true_and, and_true, lset_0, lset_1, lset_s, avw_I, avw_L, avw_R, clr_cons, clr_nil, kst_0, kst_1, kstL_0, kstL_1, addk_I, pA_0, pA_s, pD_0, pD_s, wid_nil, wid_cons, rcv_c, putv_I, putv_L, List.length_cons, List.length_nil, List.set_cons_zero, List.set_cons_succ, not_false_eq_true, Nat.reduceMod, Nat.reduceDiv, Nat.reduceEqDiff, Nat.reduceLT, Nat.reduceLeDiff, Nat.reduceAdd, Nat.reduceSub, reduceIte, Nat.lt_irrefl, Nat.zero_ne_one, Nat.one_ne_zero, Nat.zero_add, List.nil_append, List.cons_append, Option.toList_some, Option.toList_none, forall_const, false_implies, true_implies, false_or, or_false, true_or, or_true, i_le, i_lt, i_eq, i_eq0, i_lt0, i_0le, i_0lt, i_le0, i_in1, i_cl, nI_add, pk_mul, pk_sub, i_div, i_rem, i_sh1, i_bit, i_or, i_and, i_andn, nt_le, nf_le, nt_lt, nf_lt, nt_eq, nf_eq, not_true_eq_false, and_self, and_false, false_and, eq_self, Bool.toNat_true, Bool.toNat_false, i_bool, i_bool1, Bool.false_eq_true, Bool.true_eq_false, reduceCtorEq, i_neg1, i_neg2, i_neg3, i_neg4, i_neg5, i_neg6, i_neg7, i_neg8, i_neg9, i_nega, i_negb, i_negc, i_max2, i_min2, both.2])
              refine c_Rmove hr0 ht0 (by omega) (by omega) ?_
              try simp (disch := omega) only [no0, no1, nz1, nz2, nz3, nz4, nz5, nz7, nz8, Classical.not_not, bz0, bz1, wi_nil, ld_0, ld_s, isIv_I, isLv_L, isRv_R, true_and, and_true, lset_0, lset_1, lset_s, avw_I, avw_L, avw_R, clr_cons, clr_nil, kst_0, kst_1, kstL_0, kstL_1, addk_I, pA_0, pA_s, pD_0, pD_s, wid_nil, wid_cons, rcv_c, putv_I, putv_L, List.length_cons, List.length_nil, List.set_cons_zero, List.set_cons_succ, not_false_eq_true, Nat.reduceMod, Nat.reduceDiv, Nat.reduceEqDiff, Nat.reduceLT, Nat.reduceLeDiff, Nat.reduceAdd, Nat.reduceSub, reduceIte, Nat.lt_irrefl, Nat.zero_ne_one, Nat.one_ne_zero, Nat.zero_add, List.nil_append, List.cons_append, Option.toList_some, Option.toList_none, forall_const, false_implies, true_implies, false_or, or_false, true_or, or_true, i_le, i_lt, i_eq, i_eq0, i_lt0, i_0le, i_0lt, i_le0, i_in1, i_cl, nI_add, pk_mul, pk_sub, i_div, i_rem, i_sh1, i_bit, i_or, i_and, i_andn, nt_le, nf_le, nt_lt, nf_lt, nt_eq, nf_eq, not_true_eq_false, and_self, and_false, false_and, eq_self, Bool.toNat_true, Bool.toNat_false, i_bool, i_bool1, Bool.false_eq_true, Bool.true_eq_false, reduceCtorEq, i_neg1, i_neg2, i_neg3, i_neg4, i_neg5, i_neg6, i_neg7, i_neg8, i_neg9, i_nega, i_negb, i_negc, i_max2, i_min2, wi_nil]
              repeat (
                first
                | refine s_X8_copy_0 ?_
                | refine s_X8_copy_4 ?_
                | refine s_X8_copy_11 ?_
                | refine s_X8_copy_14 ?_
                | refine s_X8_copy_16 ?_
                | refine s_X8_copy_26 ?_
                | refine s_X8_copy_27 ?_
                | refine s_X8_copy_35 ?_
                | refine s_X8_copy_46 ?_
                | refine s_X8_copy_49 ?_
                | refine s_X8_copy_54 ?_
                | refine s_X8_copy_55 ?_
                | refine s_X8_copy_66 ?_
                | refine s_X8_copy_81 ?_
                | refine s_X8_copy_84 ?_
                | refine s_X8_copy_89 ?_
                | refine s_X8_copy_90 ?_
                | refine s_X8_copy_104 ?_
                simp (disch := omega) only [B_X8_copy_0, wi_iload_n, wi_invokestatic, B_X8_copy_4, wi_if_eq, B_X8_copy_11, wi_if_ne, B_X8_copy_14, wi_iconst, wi_ireturn, B_X8_copy_16, wi_iload, wi_if_ge, wi_aload_n, wi_invokevirtual, cnt_7, B_X8_copy_26, B_X8_copy_27, wi_getfield, fldv_7_0, fds_7_0, cnt_3, B_X8_copy_35, B_X8_copy_46, B_X8_copy_49, B_X8_copy_54, B_X8_copy_55, B_X8_copy_66, B_X8_copy_81, B_X8_copy_84, B_X8_copy_89, B_X8_copy_90, B_X8_copy_104, no0, no1, nz1, nz2, nz3, nz4, nz5, nz7, nz8, Classical.not_not, bz0, bz1, wi_nil, ld_0, ld_s, isIv_I, isLv_L, isRv_R, true_and, and_true, lset_0, lset_1, lset_s, avw_I, avw_L, avw_R, clr_cons, clr_nil, kst_0, kst_1, kstL_0, kstL_1, addk_I, pA_0, pA_s, pD_0, pD_s, wid_nil, wid_cons, rcv_c, putv_I, putv_L, List.length_cons, List.length_nil, List.set_cons_zero, List.set_cons_succ, not_false_eq_true, Nat.reduceMod, Nat.reduceDiv, Nat.reduceEqDiff, Nat.reduceLT, Nat.reduceLeDiff, Nat.reduceAdd, Nat.reduceSub, reduceIte, Nat.lt_irrefl, Nat.zero_ne_one, Nat.one_ne_zero, Nat.zero_add, List.nil_append, List.cons_append, Option.toList_some, Option.toList_none, forall_const, false_implies, true_implies, false_or, or_false, true_or, or_true, i_le, i_lt, i_eq, i_eq0, i_lt0, i_0le, i_0lt, i_le0, i_in1, i_cl, nI_add, pk_mul, pk_sub, i_div, i_rem, i_sh1, i_bit, i_or, i_and, i_andn, nt_le, nf_le, nt_lt, nf_lt, nt_eq, nf_eq, not_true_eq_false, and_self, and_false, false_and, eq_self, Bool.toNat_true, Bool.toNat_false, i_bool, i_bool1, Bool.false_eq_true, Bool.true_eq_false, reduceCtorEq, i_neg1, i_neg2, i_neg3, i_neg4, i_neg5, i_neg6, i_neg7, i_neg8, i_neg9, i_nega, i_negb, i_negc, i_max2, i_min2])
              refine px ?_
              have hT : Tb (sA S 16 0 (va_cpy (gA S 16 0) (gA S 16 0) (40 * r0 + i0) (40 * t0 + j0) n0)) 31 32 6 40 rs rc := h1.2
              refine x_entry (ls2 := [aR 8 0, aI (nI r0), aI (nI i0), aI (nI t0), aI (nI j0), aI (nI n0), aU]) (Nat.le_of_ble_eq_true rfl) pl_9 rfl (Nat.le_of_ble_eq_true rfl) ?_
              try simp (disch := omega) only [no0, no1, nz1, nz2, nz3, nz4, nz5, nz7, nz8, Classical.not_not, bz0, bz1, wi_nil, ld_0, ld_s, isIv_I, isLv_L, isRv_R, true_and, and_true, lset_0, lset_1, lset_s, avw_I, avw_L, avw_R, clr_cons, clr_nil, kst_0, kst_1, kstL_0, kstL_1, addk_I, pA_0, pA_s, pD_0, pD_s, wid_nil, wid_cons, rcv_c, putv_I, putv_L, List.length_cons, List.length_nil, List.set_cons_zero, List.set_cons_succ, not_false_eq_true, Nat.reduceMod, Nat.reduceDiv, Nat.reduceEqDiff, Nat.reduceLT, Nat.reduceLeDiff, Nat.reduceAdd, Nat.reduceSub, reduceIte, Nat.lt_irrefl, Nat.zero_ne_one, Nat.one_ne_zero, Nat.zero_add, List.nil_append, List.cons_append, Option.toList_some, Option.toList_none, forall_const, false_implies, true_implies, false_or, or_false, true_or, or_true, i_le, i_lt, i_eq, i_eq0, i_lt0, i_0le, i_0lt, i_le0, i_in1, i_cl, nI_add, pk_mul, pk_sub, i_div, i_rem, i_sh1, i_bit, i_or, i_and, i_andn, nt_le, nf_le, nt_lt, nf_lt, nt_eq, nf_eq, not_true_eq_false, and_self, and_false, false_and, eq_self, Bool.toNat_true, Bool.toNat_false, i_bool, i_bool1, Bool.false_eq_true, Bool.true_eq_false, reduceCtorEq, i_neg1, i_neg2, i_neg3, i_neg4, i_neg5, i_neg6, i_neg7, i_neg8, i_neg9, i_nega, i_negb, i_negc, i_max2, i_min2, wi_nil]
              repeat (
                first
                | refine s_X9_copy_0 ?_
                | refine s_X9_copy_4 ?_
                | refine s_X9_copy_11 ?_
                | refine s_X9_copy_14 ?_
                | refine s_X9_copy_16 ?_
                | refine s_X9_copy_26 ?_
                | refine s_X9_copy_27 ?_
                | refine s_X9_copy_45 ?_
                | refine s_X9_copy_50 ?_
                | refine s_X9_copy_51 ?_
                | refine s_X9_copy_95 ?_
                | refine s_X9_copy_100 ?_
                | refine s_X9_copy_101 ?_
                | refine s_X9_copy_126 ?_
                | refine s_X9_copy_133 ?_
                | refine s_X9_copy_171 ?_
                simp (disch := omega) only [B_X9_copy_0, wi_iload_n, wi_invokestatic, B_X9_copy_4, wi_if_eq, B_X9_copy_11, wi_if_ne, B_X9_copy_14, wi_iconst, wi_ireturn, B_X9_copy_16, wi_iload, wi_if_ge, wi_aload_n, wi_invokevirtual, cnt_8, B_X9_copy_26, B_X9_copy_27, wi_getfield, fldv_8_5, fds_8_5, wi_iaload, wi_if_lt, cnt_31, aTy_31, aLn_31, arr_31, cnt_32, aTy_32, aLn_32, arr_32, cnt_33, aTy_33, aLn_33, arr_33, B_X9_copy_45, B_X9_copy_50, B_X9_copy_51, wi_i2l, wi_ladd, wi_lcmp, wi_if_gt, wi_if_le, B_X9_copy_95, B_X9_copy_100, B_X9_copy_101, wi_istore, B_X9_copy_104, wi_icmp_ge, fldv_8_7, fds_8_7, wi_iadd, B_X9_copy_126, wi_iastore, wi_iinc, wi_goto, B_X9_copy_133, B_X9_copy_136, fldv_8_6, fds_8_6, wi_bipush, wi_imul, B_X9_copy_171, no0, no1, nz1, nz2, nz3, nz4, nz5, nz7, nz8, Classical.not_not, bz0, bz1, wi_nil, ld_0, ld_s, isIv_I, isLv_L, isRv_R, true_and, and_true, lset_0, lset_1, lset_s, avw_I, avw_L, avw_R, clr_cons, clr_nil, kst_0, kst_1, kstL_0, kstL_1, addk_I, pA_0, pA_s, pD_0, pD_s, wid_nil, wid_cons, rcv_c, putv_I, putv_L, List.length_cons, List.length_nil, List.set_cons_zero, List.set_cons_succ, not_false_eq_true, Nat.reduceMod, Nat.reduceDiv, Nat.reduceEqDiff, Nat.reduceLT, Nat.reduceLeDiff, Nat.reduceAdd, Nat.reduceSub, reduceIte, Nat.lt_irrefl, Nat.zero_ne_one, Nat.one_ne_zero, Nat.zero_add, List.nil_append, List.cons_append, Option.toList_some, Option.toList_none, forall_const, false_implies, true_implies, false_or, or_false, true_or, or_true, i_le, i_lt, i_eq, i_eq0, i_lt0, i_0le, i_0lt, i_le0, i_in1, i_cl, nI_add, pk_mul, pk_sub, i_div, i_rem, i_sh1, i_bit, i_or, i_and, i_andn, nt_le, nf_le, nt_lt, nf_lt, nt_eq, nf_eq, not_true_eq_false, and_self, and_false, false_and, eq_self, Bool.toNat_true, Bool.toNat_false, i_bool, i_bool1, Bool.false_eq_true, Bool.true_eq_false, reduceCtorEq, i_neg1, i_neg2, i_neg3, i_neg4, i_neg5, i_neg6, i_neg7, i_neg8, i_neg9, i_nega, i_negb, i_negc, i_max2, i_min2])
              refine c_mRow ?_
              try simp (disch := omega) only [no0, no1, nz1, nz2, nz3, nz4, nz5, nz7, nz8, Classical.not_not, bz0, bz1, wi_nil, ld_0, ld_s, isIv_I, isLv_L, isRv_R, true_and, and_true, lset_0, lset_1, lset_s, avw_I, avw_L, avw_R, clr_cons, clr_nil, kst_0, kst_1, kstL_0, kstL_1, addk_I, pA_0, pA_s, pD_0, pD_s, wid_nil, wid_cons, rcv_c, putv_I, putv_L, List.length_cons, List.length_nil, List.set_cons_zero, List.set_cons_succ, not_false_eq_true, Nat.reduceMod, Nat.reduceDiv, Nat.reduceEqDiff, Nat.reduceLT, Nat.reduceLeDiff, Nat.reduceAdd, Nat.reduceSub, reduceIte, Nat.lt_irrefl, Nat.zero_ne_one, Nat.one_ne_zero, Nat.zero_add, List.nil_append, List.cons_append, Option.toList_some, Option.toList_none, forall_const, false_implies, true_implies, false_or, or_false, true_or, or_true, i_le, i_lt, i_eq, i_eq0, i_lt0, i_0le, i_0lt, i_le0, i_in1, i_cl, nI_add, pk_mul, pk_sub, i_div, i_rem, i_sh1, i_bit, i_or, i_and, i_andn, nt_le, nf_le, nt_lt, nf_lt, nt_eq, nf_eq, not_true_eq_false, and_self, and_false, false_and, eq_self, Bool.toNat_true, Bool.toNat_false, i_bool, i_bool1, Bool.false_eq_true, Bool.true_eq_false, reduceCtorEq, i_neg1, i_neg2, i_neg3, i_neg4, i_neg5, i_neg6, i_neg7, i_neg8, i_neg9, i_nega, i_negb, i_negc, i_max2, i_min2, hr, wi_nil]
              repeat (
                first
                | refine s_X9_copy_0 ?_
                | refine s_X9_copy_4 ?_
                | refine s_X9_copy_11 ?_
                | refine s_X9_copy_14 ?_
                | refine s_X9_copy_16 ?_
                | refine s_X9_copy_26 ?_
                | refine s_X9_copy_27 ?_
                | refine s_X9_copy_45 ?_
                | refine s_X9_copy_50 ?_
                | refine s_X9_copy_51 ?_
                | refine s_X9_copy_95 ?_
                | refine s_X9_copy_100 ?_
                | refine s_X9_copy_101 ?_
                | refine s_X9_copy_126 ?_
                | refine s_X9_copy_133 ?_
                | refine s_X9_copy_171 ?_
                simp (disch := omega) only [B_X9_copy_0, wi_iload_n, wi_invokestatic, B_X9_copy_4, wi_if_eq, B_X9_copy_11, wi_if_ne, B_X9_copy_14, wi_iconst, wi_ireturn, B_X9_copy_16, wi_iload, wi_if_ge, wi_aload_n, wi_invokevirtual, cnt_8, B_X9_copy_26, B_X9_copy_27, wi_getfield, fldv_8_5, fds_8_5, wi_iaload, wi_if_lt, cnt_31, aTy_31, aLn_31, arr_31, cnt_32, aTy_32, aLn_32, arr_32, cnt_33, aTy_33, aLn_33, arr_33, B_X9_copy_45, B_X9_copy_50, B_X9_copy_51, wi_i2l, wi_ladd, wi_lcmp, wi_if_gt, wi_if_le, B_X9_copy_95, B_X9_copy_100, B_X9_copy_101, wi_istore, B_X9_copy_104, wi_icmp_ge, fldv_8_7, fds_8_7, wi_iadd, B_X9_copy_126, wi_iastore, wi_iinc, wi_goto, B_X9_copy_133, B_X9_copy_136, fldv_8_6, fds_8_6, wi_bipush, wi_imul, B_X9_copy_171, no0, no1, nz1, nz2, nz3, nz4, nz5, nz7, nz8, Classical.not_not, bz0, bz1, wi_nil, ld_0, ld_s, isIv_I, isLv_L, isRv_R, true_and, and_true, lset_0, lset_1, lset_s, avw_I, avw_L, avw_R, clr_cons, clr_nil, kst_0, kst_1, kstL_0, kstL_1, addk_I, pA_0, pA_s, pD_0, pD_s, wid_nil, wid_cons, rcv_c, putv_I, putv_L, List.length_cons, List.length_nil, List.set_cons_zero, List.set_cons_succ, not_false_eq_true, Nat.reduceMod, Nat.reduceDiv, Nat.reduceEqDiff, Nat.reduceLT, Nat.reduceLeDiff, Nat.reduceAdd, Nat.reduceSub, reduceIte, Nat.lt_irrefl, Nat.zero_ne_one, Nat.one_ne_zero, Nat.zero_add, List.nil_append, List.cons_append, Option.toList_some, Option.toList_none, forall_const, false_implies, true_implies, false_or, or_false, true_or, or_true, i_le, i_lt, i_eq, i_eq0, i_lt0, i_0le, i_0lt, i_le0, i_in1, i_cl, nI_add, pk_mul, pk_sub, i_div, i_rem, i_sh1, i_bit, i_or, i_and, i_andn, nt_le, nf_le, nt_lt, nf_lt, nt_eq, nf_eq, not_true_eq_false, and_self, and_false, false_and, eq_self, Bool.toNat_true, Bool.toNat_false, i_bool, i_bool1, Bool.false_eq_true, Bool.true_eq_false, reduceCtorEq, i_neg1, i_neg2, i_neg3, i_neg4, i_neg5, i_neg6, i_neg7, i_neg8, i_neg9, i_nega, i_negb, i_negc, i_max2, i_min2, hr])
              refine c_mRow ?_
              try simp (disch := omega) only [no0, no1, nz1, nz2, nz3, nz4, nz5, nz7, nz8, Classical.not_not, bz0, bz1, wi_nil, ld_0, ld_s, isIv_I, isLv_L, isRv_R, true_and, and_true, lset_0, lset_1, lset_s, avw_I, avw_L, avw_R, clr_cons, clr_nil, kst_0, kst_1, kstL_0, kstL_1, addk_I, pA_0, pA_s, pD_0, pD_s, wid_nil, wid_cons, rcv_c, putv_I, putv_L, List.length_cons, List.length_nil, List.set_cons_zero, List.set_cons_succ, not_false_eq_true, Nat.reduceMod, Nat.reduceDiv, Nat.reduceEqDiff, Nat.reduceLT, Nat.reduceLeDiff, Nat.reduceAdd, Nat.reduceSub, reduceIte, Nat.lt_irrefl, Nat.zero_ne_one, Nat.one_ne_zero, Nat.zero_add, List.nil_append, List.cons_append, Option.toList_some, Option.toList_none, forall_const, false_implies, true_implies, false_or, or_false, true_or, or_true, i_le, i_lt, i_eq, i_eq0, i_lt0, i_0le, i_0lt, i_le0, i_in1, i_cl, nI_add, pk_mul, pk_sub, i_div, i_rem, i_sh1, i_bit, i_or, i_and, i_andn, nt_le, nf_le, nt_lt, nf_lt, nt_eq, nf_eq, not_true_eq_false, and_self, and_false, false_and, eq_self, Bool.toNat_true, Bool.toNat_false, i_bool, i_bool1, Bool.false_eq_true, Bool.true_eq_false, reduceCtorEq, i_neg1, i_neg2, i_neg3, i_neg4, i_neg5, i_neg6, i_neg7, i_neg8, i_neg9, i_nega, i_negb, i_negc, i_max2, i_min2, ht, (show gA (sA S 16 0 (va_cpy (gA S 16 0) (gA S 16 0) (40 * r0 + i0) (40 * t0 + j0) n0)) 31 0 r0 = nI z from hsr), (show gA (sA S 16 0 (va_cpy (gA S 16 0) (gA S 16 0) (40 * r0 + i0) (40 * t0 + j0) n0)) 31 0 t0 = nI y from hst), lc_gt, lc_le, lsum_ii, Int32.toInt_toInt64, hzi, hyi, hi0.symm, hj0.symm, hnn.symm, Int.not_lt, (show ((z : Int) < (i0 : Int) + (n0 : Int)) = False from eq_false (by omega)), (show ((j0 : Int) + (n0 : Int) ≤ (y : Int)) = True from eq_true (by omega)), wi_nil]
              repeat (
                first
                | refine s_X9_copy_0 ?_
                | refine s_X9_copy_4 ?_
                | refine s_X9_copy_11 ?_
                | refine s_X9_copy_14 ?_
                | refine s_X9_copy_16 ?_
                | refine s_X9_copy_26 ?_
                | refine s_X9_copy_27 ?_
                | refine s_X9_copy_45 ?_
                | refine s_X9_copy_50 ?_
                | refine s_X9_copy_51 ?_
                | refine s_X9_copy_95 ?_
                | refine s_X9_copy_100 ?_
                | refine s_X9_copy_101 ?_
                | refine s_X9_copy_126 ?_
                | refine s_X9_copy_133 ?_
                | refine s_X9_copy_171 ?_
                simp (disch := omega) only [B_X9_copy_0, wi_iload_n, wi_invokestatic, B_X9_copy_4, wi_if_eq, B_X9_copy_11, wi_if_ne, B_X9_copy_14, wi_iconst, wi_ireturn, B_X9_copy_16, wi_iload, wi_if_ge, wi_aload_n, wi_invokevirtual, cnt_8, B_X9_copy_26, B_X9_copy_27, wi_getfield, fldv_8_5, fds_8_5, wi_iaload, wi_if_lt, cnt_31, aTy_31, aLn_31, arr_31, cnt_32, aTy_32, aLn_32, arr_32, cnt_33, aTy_33, aLn_33, arr_33, B_X9_copy_45, B_X9_copy_50, B_X9_copy_51, wi_i2l, wi_ladd, wi_lcmp, wi_if_gt, wi_if_le, B_X9_copy_95, B_X9_copy_100, B_X9_copy_101, wi_istore, B_X9_copy_104, wi_icmp_ge, fldv_8_7, fds_8_7, wi_iadd, B_X9_copy_126, wi_iastore, wi_iinc, wi_goto, B_X9_copy_133, B_X9_copy_136, fldv_8_6, fds_8_6, wi_bipush, wi_imul, B_X9_copy_171, no0, no1, nz1, nz2, nz3, nz4, nz5, nz7, nz8, Classical.not_not, bz0, bz1, wi_nil, ld_0, ld_s, isIv_I, isLv_L, isRv_R, true_and, and_true, lset_0, lset_1, lset_s, avw_I, avw_L, avw_R, clr_cons, clr_nil, kst_0, kst_1, kstL_0, kstL_1, addk_I, pA_0, pA_s, pD_0, pD_s, wid_nil, wid_cons, rcv_c, putv_I, putv_L, List.length_cons, List.length_nil, List.set_cons_zero, List.set_cons_succ, not_false_eq_true, Nat.reduceMod, Nat.reduceDiv, Nat.reduceEqDiff, Nat.reduceLT, Nat.reduceLeDiff, Nat.reduceAdd, Nat.reduceSub, reduceIte, Nat.lt_irrefl, Nat.zero_ne_one, Nat.one_ne_zero, Nat.zero_add, List.nil_append, List.cons_append, Option.toList_some, Option.toList_none, forall_const, false_implies, true_implies, false_or, or_false, true_or, or_true, i_le, i_lt, i_eq, i_eq0, i_lt0, i_0le, i_0lt, i_le0, i_in1, i_cl, nI_add, pk_mul, pk_sub, i_div, i_rem, i_sh1, i_bit, i_or, i_and, i_andn, nt_le, nf_le, nt_lt, nf_lt, nt_eq, nf_eq, not_true_eq_false, and_self, and_false, false_and, eq_self, Bool.toNat_true, Bool.toNat_false, i_bool, i_bool1, Bool.false_eq_true, Bool.true_eq_false, reduceCtorEq, i_neg1, i_neg2, i_neg3, i_neg4, i_neg5, i_neg6, i_neg7, i_neg8, i_neg9, i_nega, i_negb, i_negc, i_max2, i_min2, ht, (show gA (sA S 16 0 (va_cpy (gA S 16 0) (gA S 16 0) (40 * r0 + i0) (40 * t0 + j0) n0)) 31 0 r0 = nI z from hsr), (show gA (sA S 16 0 (va_cpy (gA S 16 0) (gA S 16 0) (40 * r0 + i0) (40 * t0 + j0) n0)) 31 0 t0 = nI y from hst), lc_gt, lc_le, lsum_ii, Int32.toInt_toInt64, hzi, hyi, hi0.symm, hj0.symm, hnn.symm, Int.not_lt, (show ((z : Int) < (i0 : Int) + (n0 : Int)) = False from eq_false (by omega)), (show ((j0 : Int) + (n0 : Int) ≤ (y : Int)) = True from eq_true (by omega))])
              refine l_mcopy1 (S0 := _) hr0 hzr (by omega) c1 hT (fun S2 g2 f2 => ?_) n0 0 _ (by omega) (fun p hp => absurd hp (Nat.not_lt_zero p)) FA.refl
              try simp (disch := omega) only [no0, no1, nz1, nz2, nz3, nz4, nz5, nz7, nz8, Classical.not_not, bz0, bz1, wi_nil, ld_0, ld_s, isIv_I, isLv_L, isRv_R, true_and, and_true, lset_0, lset_1, lset_s, avw_I, avw_L, avw_R, clr_cons, clr_nil, kst_0, kst_1, kstL_0, kstL_1, addk_I, pA_0, pA_s, pD_0, pD_s, wid_nil, wid_cons, rcv_c, putv_I, putv_L, List.length_cons, List.length_nil, List.set_cons_zero, List.set_cons_succ, not_false_eq_true, Nat.reduceMod, Nat.reduceDiv, Nat.reduceEqDiff, Nat.reduceLT, Nat.reduceLeDiff, Nat.reduceAdd, Nat.reduceSub, reduceIte, Nat.lt_irrefl, Nat.zero_ne_one, Nat.one_ne_zero, Nat.zero_add, List.nil_append, List.cons_append, Option.toList_some, Option.toList_none, forall_const, false_implies, true_implies, false_or, or_false, true_or, or_true, i_le, i_lt, i_eq, i_eq0, i_lt0, i_0le, i_0lt, i_le0, i_in1, i_cl, nI_add, pk_mul, pk_sub, i_div, i_rem, i_sh1, i_bit, i_or, i_and, i_andn, nt_le, nf_le, nt_lt, nf_lt, nt_eq, nf_eq, not_true_eq_false, and_self, and_false, false_and, eq_self, Bool.toNat_true, Bool.toNat_false, i_bool, i_bool1, Bool.false_eq_true, Bool.true_eq_false, reduceCtorEq, i_neg1, i_neg2, i_neg3, i_neg4, i_neg5, i_neg6, i_neg7, i_neg8, i_neg9, i_nega, i_negb, i_negc, i_max2, i_min2, wi_nil]
              repeat (
                first
                | refine s_X9_copy_0 ?_
                | refine s_X9_copy_4 ?_
                | refine s_X9_copy_11 ?_
                | refine s_X9_copy_14 ?_
                | refine s_X9_copy_16 ?_
                | refine s_X9_copy_26 ?_
                | refine s_X9_copy_27 ?_
                | refine s_X9_copy_45 ?_
                | refine s_X9_copy_50 ?_
                | refine s_X9_copy_51 ?_
                | refine s_X9_copy_95 ?_
                | refine s_X9_copy_100 ?_
                | refine s_X9_copy_101 ?_
                | refine s_X9_copy_126 ?_
                | refine s_X9_copy_133 ?_
                | refine s_X9_copy_171 ?_
                simp (disch := omega) only [B_X9_copy_0, wi_iload_n, wi_invokestatic, B_X9_copy_4, wi_if_eq, B_X9_copy_11, wi_if_ne, B_X9_copy_14, wi_iconst, wi_ireturn, B_X9_copy_16, wi_iload, wi_if_ge, wi_aload_n, wi_invokevirtual, cnt_8, B_X9_copy_26, B_X9_copy_27, wi_getfield, fldv_8_5, fds_8_5, wi_iaload, wi_if_lt, cnt_31, aTy_31, aLn_31, arr_31, cnt_32, aTy_32, aLn_32, arr_32, cnt_33, aTy_33, aLn_33, arr_33, B_X9_copy_45, B_X9_copy_50, B_X9_copy_51, wi_i2l, wi_ladd, wi_lcmp, wi_if_gt, wi_if_le, B_X9_copy_95, B_X9_copy_100, B_X9_copy_101, wi_istore, B_X9_copy_104, wi_icmp_ge, fldv_8_7, fds_8_7, wi_iadd, B_X9_copy_126, wi_iastore, wi_iinc, wi_goto, B_X9_copy_133, B_X9_copy_136, fldv_8_6, fds_8_6, wi_bipush, wi_imul, B_X9_copy_171, no0, no1, nz1, nz2, nz3, nz4, nz5, nz7, nz8, Classical.not_not, bz0, bz1, wi_nil, ld_0, ld_s, isIv_I, isLv_L, isRv_R, true_and, and_true, lset_0, lset_1, lset_s, avw_I, avw_L, avw_R, clr_cons, clr_nil, kst_0, kst_1, kstL_0, kstL_1, addk_I, pA_0, pA_s, pD_0, pD_s, wid_nil, wid_cons, rcv_c, putv_I, putv_L, List.length_cons, List.length_nil, List.set_cons_zero, List.set_cons_succ, not_false_eq_true, Nat.reduceMod, Nat.reduceDiv, Nat.reduceEqDiff, Nat.reduceLT, Nat.reduceLeDiff, Nat.reduceAdd, Nat.reduceSub, reduceIte, Nat.lt_irrefl, Nat.zero_ne_one, Nat.one_ne_zero, Nat.zero_add, List.nil_append, List.cons_append, Option.toList_some, Option.toList_none, forall_const, false_implies, true_implies, false_or, or_false, true_or, or_true, i_le, i_lt, i_eq, i_eq0, i_lt0, i_0le, i_0lt, i_le0, i_in1, i_cl, nI_add, pk_mul, pk_sub, i_div, i_rem, i_sh1, i_bit, i_or, i_and, i_andn, nt_le, nf_le, nt_lt, nf_lt, nt_eq, nf_eq, not_true_eq_false, and_self, and_false, false_and, eq_self, Bool.toNat_true, Bool.toNat_false, i_bool, i_bool1, Bool.false_eq_true, Bool.true_eq_false, reduceCtorEq, i_neg1, i_neg2, i_neg3, i_neg4, i_neg5, i_neg6, i_neg7, i_neg8, i_neg9, i_nega, i_negb, i_negc, i_max2, i_min2])
              refine l_mcopy2 (g := fun p => rc r0 (i0 + p)) ht0 (by omega) n0 0 S2 (by omega) g2 ?_
              refine pm ?_
              have e32 : gA S2 32 0 = gA S 32 0 := f2.2.2 32 0 (by decide)
              have e16 : gA S2 16 0 = va_cpy (gA S 16 0) (gA S 16 0) (40 * r0 + i0) (40 * t0 + j0) n0 := f2.2.2 16 0 (by decide)
              have e15 : gA S2 15 0 = gA S 15 0 := f2.2.2 15 0 (by decide)
              have e31 : gA S2 31 0 = gA S 31 0 := f2.2.2 31 0 (by decide)
              have ff : Fs (sA S 16 0 (va_cpy (gA S 16 0) (gA S 16 0) (40 * r0 + i0) (40 * t0 + j0) n0)) S2 := ⟨fun a b c _ => f2.1 a b c, fun a b c _ => f2.2.1 a b c, fun a b q => f2.2.2 a b (fun e => by rw [e.1, e.2] at q; cases q)⟩
              refine rr_1 (rs := rs) (rc := fun a p => if a = t0 ∧ j0 ≤ p ∧ p < j0 + n0 then rc r0 (i0 + (p - j0)) else rc a p) h (((fr_sA rfl).trans ff.pn).trans (fr_sA rfl)) ⟨tb_cpy (g := fun p => gA S 16 0 (40 * r0 + i0 + p)) h1.1 ht0 (by omega) (fun p hp => ?_) e15 ?_, tb_cpy (g := fun p => rc r0 (i0 + p)) h1.2 ht0 (by omega) (fun p hp => rfl) e31 ?_⟩
              · rw [← (h1.1 r0 hr0).2.2 (i0 + p) (by omega)]
                congr 1
                omega
              · show gA S2 16 0 = _
                rw [e16, cpy_put]
              · rw [gA_same, e32]
                rfl
            · refine x_entry (ls2 := [aR 7 0, aI (nI r0), aI i, aI (nI t0), aI j, aI n]) (Nat.le_of_ble_eq_true rfl) pl_8 rfl (Nat.le_of_ble_eq_true rfl) ?_
              try simp (disch := omega) only [no0, no1, nz1, nz2, nz3, nz4, nz5, nz7, nz8, Classical.not_not, bz0, bz1, wi_nil, ld_0, ld_s, isIv_I, isLv_L, isRv_R, true_and, and_true, lset_0, lset_1, lset_s, avw_I, avw_L, avw_R, clr_cons, clr_nil, kst_0, kst_1, kstL_0, kstL_1, addk_I, pA_0, pA_s, pD_0, pD_s, wid_nil, wid_cons, rcv_c, putv_I, putv_L, List.length_cons, List.length_nil, List.set_cons_zero, List.set_cons_succ, not_false_eq_true, Nat.reduceMod, Nat.reduceDiv, Nat.reduceEqDiff, Nat.reduceLT, Nat.reduceLeDiff, Nat.reduceAdd, Nat.reduceSub, reduceIte, Nat.lt_irrefl, Nat.zero_ne_one, Nat.one_ne_zero, Nat.zero_add, List.nil_append, List.cons_append, Option.toList_some, Option.toList_none, forall_const, false_implies, true_implies, false_or, or_false, true_or, or_true, i_le, i_lt, i_eq, i_eq0, i_lt0, i_0le, i_0lt, i_le0, i_in1, i_cl, nI_add, pk_mul, pk_sub, i_div, i_rem, i_sh1, i_bit, i_or, i_and, i_andn, nt_le, nf_le, nt_lt, nf_lt, nt_eq, nf_eq, not_true_eq_false, and_self, and_false, false_and, eq_self, Bool.toNat_true, Bool.toNat_false, i_bool, i_bool1, Bool.false_eq_true, Bool.true_eq_false, reduceCtorEq, i_neg1, i_neg2, i_neg3, i_neg4, i_neg5, i_neg6, i_neg7, i_neg8, i_neg9, i_nega, i_negb, i_negc, i_max2, i_min2, wi_nil]
              repeat (
                first
                | refine s_X8_copy_0 ?_
                | refine s_X8_copy_4 ?_
                | refine s_X8_copy_11 ?_
                | refine s_X8_copy_14 ?_
                | refine s_X8_copy_16 ?_
                | refine s_X8_copy_26 ?_
                | refine s_X8_copy_27 ?_
                | refine s_X8_copy_35 ?_
                | refine s_X8_copy_46 ?_
                | refine s_X8_copy_49 ?_
                | refine s_X8_copy_54 ?_
                | refine s_X8_copy_55 ?_
                | refine s_X8_copy_66 ?_
                | refine s_X8_copy_81 ?_
                | refine s_X8_copy_84 ?_
                | refine s_X8_copy_89 ?_
                | refine s_X8_copy_90 ?_
                | refine s_X8_copy_104 ?_
                simp (disch := omega) only [B_X8_copy_0, wi_iload_n, wi_invokestatic, B_X8_copy_4, wi_if_eq, B_X8_copy_11, wi_if_ne, B_X8_copy_14, wi_iconst, wi_ireturn, B_X8_copy_16, wi_iload, wi_if_ge, wi_aload_n, wi_invokevirtual, cnt_7, B_X8_copy_26, B_X8_copy_27, wi_getfield, fldv_7_0, fds_7_0, cnt_3, B_X8_copy_35, B_X8_copy_46, B_X8_copy_49, B_X8_copy_54, B_X8_copy_55, B_X8_copy_66, B_X8_copy_81, B_X8_copy_84, B_X8_copy_89, B_X8_copy_90, B_X8_copy_104, no0, no1, nz1, nz2, nz3, nz4, nz5, nz7, nz8, Classical.not_not, bz0, bz1, wi_nil, ld_0, ld_s, isIv_I, isLv_L, isRv_R, true_and, and_true, lset_0, lset_1, lset_s, avw_I, avw_L, avw_R, clr_cons, clr_nil, kst_0, kst_1, kstL_0, kstL_1, addk_I, pA_0, pA_s, pD_0, pD_s, wid_nil, wid_cons, rcv_c, putv_I, putv_L, List.length_cons, List.length_nil, List.set_cons_zero, List.set_cons_succ, not_false_eq_true, Nat.reduceMod, Nat.reduceDiv, Nat.reduceEqDiff, Nat.reduceLT, Nat.reduceLeDiff, Nat.reduceAdd, Nat.reduceSub, reduceIte, Nat.lt_irrefl, Nat.zero_ne_one, Nat.one_ne_zero, Nat.zero_add, List.nil_append, List.cons_append, Option.toList_some, Option.toList_none, forall_const, false_implies, true_implies, false_or, or_false, true_or, or_true, i_le, i_lt, i_eq, i_eq0, i_lt0, i_0le, i_0lt, i_le0, i_in1, i_cl, nI_add, pk_mul, pk_sub, i_div, i_rem, i_sh1, i_bit, i_or, i_and, i_andn, nt_le, nf_le, nt_lt, nf_lt, nt_eq, nf_eq, not_true_eq_false, and_self, and_false, false_and, eq_self, Bool.toNat_true, Bool.toNat_false, i_bool, i_bool1, Bool.false_eq_true, Bool.true_eq_false, reduceCtorEq, i_neg1, i_neg2, i_neg3, i_neg4, i_neg5, i_neg6, i_neg7, i_neg8, i_neg9, i_nega, i_negb, i_negc, i_max2, i_min2])
              refine c_isRow ?_
              try simp (disch := omega) only [no0, no1, nz1, nz2, nz3, nz4, nz5, nz7, nz8, Classical.not_not, bz0, bz1, wi_nil, ld_0, ld_s, isIv_I, isLv_L, isRv_R, true_and, and_true, lset_0, lset_1, lset_s, avw_I, avw_L, avw_R, clr_cons, clr_nil, kst_0, kst_1, kstL_0, kstL_1, addk_I, pA_0, pA_s, pD_0, pD_s, wid_nil, wid_cons, rcv_c, putv_I, putv_L, List.length_cons, List.length_nil, List.set_cons_zero, List.set_cons_succ, not_false_eq_true, Nat.reduceMod, Nat.reduceDiv, Nat.reduceEqDiff, Nat.reduceLT, Nat.reduceLeDiff, Nat.reduceAdd, Nat.reduceSub, reduceIte, Nat.lt_irrefl, Nat.zero_ne_one, Nat.one_ne_zero, Nat.zero_add, List.nil_append, List.cons_append, Option.toList_some, Option.toList_none, forall_const, false_implies, true_implies, false_or, or_false, true_or, or_true, i_le, i_lt, i_eq, i_eq0, i_lt0, i_0le, i_0lt, i_le0, i_in1, i_cl, nI_add, pk_mul, pk_sub, i_div, i_rem, i_sh1, i_bit, i_or, i_and, i_andn, nt_le, nf_le, nt_lt, nf_lt, nt_eq, nf_eq, not_true_eq_false, and_self, and_false, false_and, eq_self, Bool.toNat_true, Bool.toNat_false, i_bool, i_bool1, Bool.false_eq_true, Bool.true_eq_false, reduceCtorEq, i_neg1, i_neg2, i_neg3, i_neg4, i_neg5, i_neg6, i_neg7, i_neg8, i_neg9, i_nega, i_negb, i_negc, i_max2, i_min2, hr, wi_nil]
              repeat (
                first
                | refine s_X8_copy_0 ?_
                | refine s_X8_copy_4 ?_
                | refine s_X8_copy_11 ?_
                | refine s_X8_copy_14 ?_
                | refine s_X8_copy_16 ?_
                | refine s_X8_copy_26 ?_
                | refine s_X8_copy_27 ?_
                | refine s_X8_copy_35 ?_
                | refine s_X8_copy_46 ?_
                | refine s_X8_copy_49 ?_
                | refine s_X8_copy_54 ?_
                | refine s_X8_copy_55 ?_
                | refine s_X8_copy_66 ?_
                | refine s_X8_copy_81 ?_
                | refine s_X8_copy_84 ?_
                | refine s_X8_copy_89 ?_
                | refine s_X8_copy_90 ?_
                | refine s_X8_copy_104 ?_
                simp (disch := omega) only [B_X8_copy_0, wi_iload_n, wi_invokestatic, B_X8_copy_4, wi_if_eq, B_X8_copy_11, wi_if_ne, B_X8_copy_14, wi_iconst, wi_ireturn, B_X8_copy_16, wi_iload, wi_if_ge, wi_aload_n, wi_invokevirtual, cnt_7, B_X8_copy_26, B_X8_copy_27, wi_getfield, fldv_7_0, fds_7_0, cnt_3, B_X8_copy_35, B_X8_copy_46, B_X8_copy_49, B_X8_copy_54, B_X8_copy_55, B_X8_copy_66, B_X8_copy_81, B_X8_copy_84, B_X8_copy_89, B_X8_copy_90, B_X8_copy_104, no0, no1, nz1, nz2, nz3, nz4, nz5, nz7, nz8, Classical.not_not, bz0, bz1, wi_nil, ld_0, ld_s, isIv_I, isLv_L, isRv_R, true_and, and_true, lset_0, lset_1, lset_s, avw_I, avw_L, avw_R, clr_cons, clr_nil, kst_0, kst_1, kstL_0, kstL_1, addk_I, pA_0, pA_s, pD_0, pD_s, wid_nil, wid_cons, rcv_c, putv_I, putv_L, List.length_cons, List.length_nil, List.set_cons_zero, List.set_cons_succ, not_false_eq_true, Nat.reduceMod, Nat.reduceDiv, Nat.reduceEqDiff, Nat.reduceLT, Nat.reduceLeDiff, Nat.reduceAdd, Nat.reduceSub, reduceIte, Nat.lt_irrefl, Nat.zero_ne_one, Nat.one_ne_zero, Nat.zero_add, List.nil_append, List.cons_append, Option.toList_some, Option.toList_none, forall_const, false_implies, true_implies, false_or, or_false, true_or, or_true, i_le, i_lt, i_eq, i_eq0, i_lt0, i_0le, i_0lt, i_le0, i_in1, i_cl, nI_add, pk_mul, pk_sub, i_div, i_rem, i_sh1, i_bit, i_or, i_and, i_andn, nt_le, nf_le, nt_lt, nf_lt, nt_eq, nf_eq, not_true_eq_false, and_self, and_false, false_and, eq_self, Bool.toNat_true, Bool.toNat_false, i_bool, i_bool1, Bool.false_eq_true, Bool.true_eq_false, reduceCtorEq, i_neg1, i_neg2, i_neg3, i_neg4, i_neg5, i_neg6, i_neg7, i_neg8, i_neg9, i_nega, i_negb, i_negc, i_max2, i_min2, hr])
              refine c_isRow ?_
              try simp (disch := omega) only [no0, no1, nz1, nz2, nz3, nz4, nz5, nz7, nz8, Classical.not_not, bz0, bz1, wi_nil, ld_0, ld_s, isIv_I, isLv_L, isRv_R, true_and, and_true, lset_0, lset_1, lset_s, avw_I, avw_L, avw_R, clr_cons, clr_nil, kst_0, kst_1, kstL_0, kstL_1, addk_I, pA_0, pA_s, pD_0, pD_s, wid_nil, wid_cons, rcv_c, putv_I, putv_L, List.length_cons, List.length_nil, List.set_cons_zero, List.set_cons_succ, not_false_eq_true, Nat.reduceMod, Nat.reduceDiv, Nat.reduceEqDiff, Nat.reduceLT, Nat.reduceLeDiff, Nat.reduceAdd, Nat.reduceSub, reduceIte, Nat.lt_irrefl, Nat.zero_ne_one, Nat.one_ne_zero, Nat.zero_add, List.nil_append, List.cons_append, Option.toList_some, Option.toList_none, forall_const, false_implies, true_implies, false_or, or_false, true_or, or_true, i_le, i_lt, i_eq, i_eq0, i_lt0, i_0le, i_0lt, i_le0, i_in1, i_cl, nI_add, pk_mul, pk_sub, i_div, i_rem, i_sh1, i_bit, i_or, i_and, i_andn, nt_le, nf_le, nt_lt, nf_lt, nt_eq, nf_eq, not_true_eq_false, and_self, and_false, false_and, eq_self, Bool.toNat_true, Bool.toNat_false, i_bool, i_bool1, Bool.false_eq_true, Bool.true_eq_false, reduceCtorEq, i_neg1, i_neg2, i_neg3, i_neg4, i_neg5, i_neg6, i_neg7, i_neg8, i_neg9, i_nega, i_negb, i_negc, i_max2, i_min2, ht, hn1, wi_nil]
              repeat (
                first
                | refine s_X8_copy_0 ?_
                | refine s_X8_copy_4 ?_
                | refine s_X8_copy_11 ?_
                | refine s_X8_copy_14 ?_
                | refine s_X8_copy_16 ?_
                | refine s_X8_copy_26 ?_
                | refine s_X8_copy_27 ?_
                | refine s_X8_copy_35 ?_
                | refine s_X8_copy_46 ?_
                | refine s_X8_copy_49 ?_
                | refine s_X8_copy_54 ?_
                | refine s_X8_copy_55 ?_
                | refine s_X8_copy_66 ?_
                | refine s_X8_copy_81 ?_
                | refine s_X8_copy_84 ?_
                | refine s_X8_copy_89 ?_
                | refine s_X8_copy_90 ?_
                | refine s_X8_copy_104 ?_
                simp (disch := omega) only [B_X8_copy_0, wi_iload_n, wi_invokestatic, B_X8_copy_4, wi_if_eq, B_X8_copy_11, wi_if_ne, B_X8_copy_14, wi_iconst, wi_ireturn, B_X8_copy_16, wi_iload, wi_if_ge, wi_aload_n, wi_invokevirtual, cnt_7, B_X8_copy_26, B_X8_copy_27, wi_getfield, fldv_7_0, fds_7_0, cnt_3, B_X8_copy_35, B_X8_copy_46, B_X8_copy_49, B_X8_copy_54, B_X8_copy_55, B_X8_copy_66, B_X8_copy_81, B_X8_copy_84, B_X8_copy_89, B_X8_copy_90, B_X8_copy_104, no0, no1, nz1, nz2, nz3, nz4, nz5, nz7, nz8, Classical.not_not, bz0, bz1, wi_nil, ld_0, ld_s, isIv_I, isLv_L, isRv_R, true_and, and_true, lset_0, lset_1, lset_s, avw_I, avw_L, avw_R, clr_cons, clr_nil, kst_0, kst_1, kstL_0, kstL_1, addk_I, pA_0, pA_s, pD_0, pD_s, wid_nil, wid_cons, rcv_c, putv_I, putv_L, List.length_cons, List.length_nil, List.set_cons_zero, List.set_cons_succ, not_false_eq_true, Nat.reduceMod, Nat.reduceDiv, Nat.reduceEqDiff, Nat.reduceLT, Nat.reduceLeDiff, Nat.reduceAdd, Nat.reduceSub, reduceIte, Nat.lt_irrefl, Nat.zero_ne_one, Nat.one_ne_zero, Nat.zero_add, List.nil_append, List.cons_append, Option.toList_some, Option.toList_none, forall_const, false_implies, true_implies, false_or, or_false, true_or, or_true, i_le, i_lt, i_eq, i_eq0, i_lt0, i_0le, i_0lt, i_le0, i_in1, i_cl, nI_add, pk_mul, pk_sub, i_div, i_rem, i_sh1, i_bit, i_or, i_and, i_andn, nt_le, nf_le, nt_lt, nf_lt, nt_eq, nf_eq, not_true_eq_false, and_self, and_false, false_and, eq_self, Bool.toNat_true, Bool.toNat_false, i_bool, i_bool1, Bool.false_eq_true, Bool.true_eq_false, reduceCtorEq, i_neg1, i_neg2, i_neg3, i_neg4, i_neg5, i_neg6, i_neg7, i_neg8, i_neg9, i_nega, i_negb, i_negc, i_max2, i_min2, ht, hn1])
              refine c_Rthere h1.1 hr0 ?_
              rw [if_neg hz]
              try simp (disch := omega) only [no0, no1, nz1, nz2, nz3, nz4, nz5, nz7, nz8, Classical.not_not, bz0, bz1, wi_nil, ld_0, ld_s, isIv_I, isLv_L, isRv_R, true_and, and_true, lset_0, lset_1, lset_s, avw_I, avw_L, avw_R, clr_cons, clr_nil, kst_0, kst_1, kstL_0, kstL_1, addk_I, pA_0, pA_s, pD_0, pD_s, wid_nil, wid_cons, rcv_c, putv_I, putv_L, List.length_cons, List.length_nil, List.set_cons_zero, List.set_cons_succ, not_false_eq_true, Nat.reduceMod, Nat.reduceDiv, Nat.reduceEqDiff, Nat.reduceLT, Nat.reduceLeDiff, Nat.reduceAdd, Nat.reduceSub, reduceIte, Nat.lt_irrefl, Nat.zero_ne_one, Nat.one_ne_zero, Nat.zero_add, List.nil_append, List.cons_append, Option.toList_some, Option.toList_none, forall_const, false_implies, true_implies, false_or, or_false, true_or, or_true, i_le, i_lt, i_eq, i_eq0, i_lt0, i_0le, i_0lt, i_le0, i_in1, i_cl, nI_add, pk_mul, pk_sub, i_div, i_rem, i_sh1, i_bit, i_or, i_and, i_andn, nt_le, nf_le, nt_lt, nf_lt, nt_eq, nf_eq, not_true_eq_false, and_self, and_false, false_and, eq_self, Bool.toNat_true, Bool.toNat_false, i_bool, i_bool1, Bool.false_eq_true, Bool.true_eq_false, reduceCtorEq, i_neg1, i_neg2, i_neg3, i_neg4, i_neg5, i_neg6, i_neg7, i_neg8, i_neg9, i_nega, i_negb, i_negc, i_max2, i_min2, wi_nil]
              repeat (
                first
                | refine s_X8_copy_0 ?_
                | refine s_X8_copy_4 ?_
                | refine s_X8_copy_11 ?_
                | refine s_X8_copy_14 ?_
                | refine s_X8_copy_16 ?_
                | refine s_X8_copy_26 ?_
                | refine s_X8_copy_27 ?_
                | refine s_X8_copy_35 ?_
                | refine s_X8_copy_46 ?_
                | refine s_X8_copy_49 ?_
                | refine s_X8_copy_54 ?_
                | refine s_X8_copy_55 ?_
                | refine s_X8_copy_66 ?_
                | refine s_X8_copy_81 ?_
                | refine s_X8_copy_84 ?_
                | refine s_X8_copy_89 ?_
                | refine s_X8_copy_90 ?_
                | refine s_X8_copy_104 ?_
                simp (disch := omega) only [B_X8_copy_0, wi_iload_n, wi_invokestatic, B_X8_copy_4, wi_if_eq, B_X8_copy_11, wi_if_ne, B_X8_copy_14, wi_iconst, wi_ireturn, B_X8_copy_16, wi_iload, wi_if_ge, wi_aload_n, wi_invokevirtual, cnt_7, B_X8_copy_26, B_X8_copy_27, wi_getfield, fldv_7_0, fds_7_0, cnt_3, B_X8_copy_35, B_X8_copy_46, B_X8_copy_49, B_X8_copy_54, B_X8_copy_55, B_X8_copy_66, B_X8_copy_81, B_X8_copy_84, B_X8_copy_89, B_X8_copy_90, B_X8_copy_104, no0, no1, nz1, nz2, nz3, nz4, nz5, nz7, nz8, Classical.not_not, bz0, bz1, wi_nil, ld_0, ld_s, isIv_I, isLv_L, isRv_R, true_and, and_true, lset_0, lset_1, lset_s, avw_I, avw_L, avw_R, clr_cons, clr_nil, kst_0, kst_1, kstL_0, kstL_1, addk_I, pA_0, pA_s, pD_0, pD_s, wid_nil, wid_cons, rcv_c, putv_I, putv_L, List.length_cons, List.length_nil, List.set_cons_zero, List.set_cons_succ, not_false_eq_true, Nat.reduceMod, Nat.reduceDiv, Nat.reduceEqDiff, Nat.reduceLT, Nat.reduceLeDiff, Nat.reduceAdd, Nat.reduceSub, reduceIte, Nat.lt_irrefl, Nat.zero_ne_one, Nat.one_ne_zero, Nat.zero_add, List.nil_append, List.cons_append, Option.toList_some, Option.toList_none, forall_const, false_implies, true_implies, false_or, or_false, true_or, or_true, i_le, i_lt, i_eq, i_eq0, i_lt0, i_0le, i_0lt, i_le0, i_in1, i_cl, nI_add, pk_mul, pk_sub, i_div, i_rem, i_sh1, i_bit, i_or, i_and, i_andn, nt_le, nf_le, nt_lt, nf_lt, nt_eq, nf_eq, not_true_eq_false, and_self, and_false, false_and, eq_self, Bool.toNat_true, Bool.toNat_false, i_bool, i_bool1, Bool.false_eq_true, Bool.true_eq_false, reduceCtorEq, i_neg1, i_neg2, i_neg3, i_neg4, i_neg5, i_neg6, i_neg7, i_neg8, i_neg9, i_nega, i_negb, i_negc, i_max2, i_min2])
              refine c_Rthere h1.1 ht0 ?_
              rw [if_neg hz2]
              try simp (disch := omega) only [no0, no1, nz1, nz2, nz3, nz4, nz5, nz7, nz8, Classical.not_not, bz0, bz1, wi_nil, ld_0, ld_s, isIv_I, isLv_L, isRv_R, true_and, and_true, lset_0, lset_1, lset_s, avw_I, avw_L, avw_R, clr_cons, clr_nil, kst_0, kst_1, kstL_0, kstL_1, addk_I, pA_0, pA_s, pD_0, pD_s, wid_nil, wid_cons, rcv_c, putv_I, putv_L, List.length_cons, List.length_nil, List.set_cons_zero, List.set_cons_succ, not_false_eq_true, Nat.reduceMod, Nat.reduceDiv, Nat.reduceEqDiff, Nat.reduceLT, Nat.reduceLeDiff, Nat.reduceAdd, Nat.reduceSub, reduceIte, Nat.lt_irrefl, Nat.zero_ne_one, Nat.one_ne_zero, Nat.zero_add, List.nil_append, List.cons_append, Option.toList_some, Option.toList_none, forall_const, false_implies, true_implies, false_or, or_false, true_or, or_true, i_le, i_lt, i_eq, i_eq0, i_lt0, i_0le, i_0lt, i_le0, i_in1, i_cl, nI_add, pk_mul, pk_sub, i_div, i_rem, i_sh1, i_bit, i_or, i_and, i_andn, nt_le, nf_le, nt_lt, nf_lt, nt_eq, nf_eq, not_true_eq_false, and_self, and_false, false_and, eq_self, Bool.toNat_true, Bool.toNat_false, i_bool, i_bool1, Bool.false_eq_true, Bool.true_eq_false, reduceCtorEq, i_neg1, i_neg2, i_neg3, i_neg4, i_neg5, i_neg6, i_neg7, i_neg8, i_neg9, i_nega, i_negb, i_negc, i_max2, i_min2, wi_nil]
              repeat (
                first
                | refine s_X8_copy_0 ?_
                | refine s_X8_copy_4 ?_
                | refine s_X8_copy_11 ?_
                | refine s_X8_copy_14 ?_
                | refine s_X8_copy_16 ?_
                | refine s_X8_copy_26 ?_
                | refine s_X8_copy_27 ?_
                | refine s_X8_copy_35 ?_
                | refine s_X8_copy_46 ?_
                | refine s_X8_copy_49 ?_
                | refine s_X8_copy_54 ?_
                | refine s_X8_copy_55 ?_
                | refine s_X8_copy_66 ?_
                | refine s_X8_copy_81 ?_
                | refine s_X8_copy_84 ?_
                | refine s_X8_copy_89 ?_
                | refine s_X8_copy_90 ?_
                | refine s_X8_copy_104 ?_
                simp (disch := omega) only [B_X8_copy_0, wi_iload_n, wi_invokestatic, B_X8_copy_4, wi_if_eq, B_X8_copy_11, wi_if_ne, B_X8_copy_14, wi_iconst, wi_ireturn, B_X8_copy_16, wi_iload, wi_if_ge, wi_aload_n, wi_invokevirtual, cnt_7, B_X8_copy_26, B_X8_copy_27, wi_getfield, fldv_7_0, fds_7_0, cnt_3, B_X8_copy_35, B_X8_copy_46, B_X8_copy_49, B_X8_copy_54, B_X8_copy_55, B_X8_copy_66, B_X8_copy_81, B_X8_copy_84, B_X8_copy_89, B_X8_copy_90, B_X8_copy_104, no0, no1, nz1, nz2, nz3, nz4, nz5, nz7, nz8, Classical.not_not, bz0, bz1, wi_nil, ld_0, ld_s, isIv_I, isLv_L, isRv_R, true_and, and_true, lset_0, lset_1, lset_s, avw_I, avw_L, avw_R, clr_cons, clr_nil, kst_0, kst_1, kstL_0, kstL_1, addk_I, pA_0, pA_s, pD_0, pD_s, wid_nil, wid_cons, rcv_c, putv_I, putv_L, List.length_cons, List.length_nil, List.set_cons_zero, List.set_cons_succ, not_false_eq_true, Nat.reduceMod, Nat.reduceDiv, Nat.reduceEqDiff, Nat.reduceLT, Nat.reduceLeDiff, Nat.reduceAdd, Nat.reduceSub, reduceIte, Nat.lt_irrefl, Nat.zero_ne_one, Nat.one_ne_zero, Nat.zero_add, List.nil_append, List.cons_append, Option.toList_some, Option.toList_none, forall_const, false_implies, true_implies, false_or, or_false, true_or, or_true, i_le, i_lt, i_eq, i_eq0, i_lt0, i_0le, i_0lt, i_le0, i_in1, i_cl, nI_add, pk_mul, pk_sub, i_div, i_rem, i_sh1, i_bit, i_or, i_and, i_andn, nt_le, nf_le, nt_lt, nf_lt, nt_eq, nf_eq, not_true_eq_false, and_self, and_false, false_and, eq_self, Bool.toNat_true, Bool.toNat_false, i_bool, i_bool1, Bool.false_eq_true, Bool.true_eq_false, reduceCtorEq, i_neg1, i_neg2, i_neg3, i_neg4, i_neg5, i_neg6, i_neg7, i_neg8, i_neg9, i_nega, i_negb, i_negc, i_max2, i_min2])
              have fin : wpX (d + 9) mX8_copy 84 [aR 7 0, aU, aU, aU, aU, aU] [] S (PX d mX9_copy [aI (nI r0), aI i, aI (nI t0), aI j, aI n]) := by
                try simp (disch := omega) only [no0, no1, nz1, nz2, nz3, nz4, nz5, nz7, nz8, Classical.not_not, bz0, bz1, wi_nil, ld_0, ld_s, isIv_I, isLv_L, isRv_R, true_and, and_true, lset_0, lset_1, lset_s, avw_I, avw_L, avw_R, clr_cons, clr_nil, kst_0, kst_1, kstL_0, kstL_1, addk_I, pA_0, pA_s, pD_0, pD_s, wid_nil, wid_cons, rcv_c, putv_I, putv_L, List.length_cons, List.length_nil, List.set_cons_zero, List.set_cons_succ, not_false_eq_true, Nat.reduceMod, Nat.reduceDiv, Nat.reduceEqDiff, Nat.reduceLT, Nat.reduceLeDiff, Nat.reduceAdd, Nat.reduceSub, reduceIte, Nat.lt_irrefl, Nat.zero_ne_one, Nat.one_ne_zero, Nat.zero_add, List.nil_append, List.cons_append, Option.toList_some, Option.toList_none, forall_const, false_implies, true_implies, false_or, or_false, true_or, or_true, i_le, i_lt, i_eq, i_eq0, i_lt0, i_0le, i_0lt, i_le0, i_in1, i_cl, nI_add, pk_mul, pk_sub, i_div, i_rem, i_sh1, i_bit, i_or, i_and, i_andn, nt_le, nf_le, nt_lt, nf_lt, nt_eq, nf_eq, not_true_eq_false, and_self, and_false, false_and, eq_self, Bool.toNat_true, Bool.toNat_false, i_bool, i_bool1, Bool.false_eq_true, Bool.true_eq_false, reduceCtorEq, i_neg1, i_neg2, i_neg3, i_neg4, i_neg5, i_neg6, i_neg7, i_neg8, i_neg9, i_nega, i_negb, i_negc, i_max2, i_min2, wi_nil]
                repeat (
                  first
                  | refine s_X8_copy_0 ?_
                  | refine s_X8_copy_4 ?_
                  | refine s_X8_copy_11 ?_
                  | refine s_X8_copy_14 ?_
                  | refine s_X8_copy_16 ?_
                  | refine s_X8_copy_26 ?_
                  | refine s_X8_copy_27 ?_
                  | refine s_X8_copy_35 ?_
                  | refine s_X8_copy_46 ?_
                  | refine s_X8_copy_49 ?_
                  | refine s_X8_copy_54 ?_
                  | refine s_X8_copy_55 ?_
                  | refine s_X8_copy_66 ?_
                  | refine s_X8_copy_81 ?_
                  | refine s_X8_copy_84 ?_
                  | refine s_X8_copy_89 ?_
                  | refine s_X8_copy_90 ?_
                  | refine s_X8_copy_104 ?_
                  simp (disch := omega) only [B_X8_copy_0, wi_iload_n, wi_invokestatic, B_X8_copy_4, wi_if_eq, B_X8_copy_11, wi_if_ne, B_X8_copy_14, wi_iconst, wi_ireturn, B_X8_copy_16, wi_iload, wi_if_ge, wi_aload_n, wi_invokevirtual, cnt_7, B_X8_copy_26, B_X8_copy_27, wi_getfield, fldv_7_0, fds_7_0, cnt_3, B_X8_copy_35, B_X8_copy_46, B_X8_copy_49, B_X8_copy_54, B_X8_copy_55, B_X8_copy_66, B_X8_copy_81, B_X8_copy_84, B_X8_copy_89, B_X8_copy_90, B_X8_copy_104, no0, no1, nz1, nz2, nz3, nz4, nz5, nz7, nz8, Classical.not_not, bz0, bz1, wi_nil, ld_0, ld_s, isIv_I, isLv_L, isRv_R, true_and, and_true, lset_0, lset_1, lset_s, avw_I, avw_L, avw_R, clr_cons, clr_nil, kst_0, kst_1, kstL_0, kstL_1, addk_I, pA_0, pA_s, pD_0, pD_s, wid_nil, wid_cons, rcv_c, putv_I, putv_L, List.length_cons, List.length_nil, List.set_cons_zero, List.set_cons_succ, not_false_eq_true, Nat.reduceMod, Nat.reduceDiv, Nat.reduceEqDiff, Nat.reduceLT, Nat.reduceLeDiff, Nat.reduceAdd, Nat.reduceSub, reduceIte, Nat.lt_irrefl, Nat.zero_ne_one, Nat.one_ne_zero, Nat.zero_add, List.nil_append, List.cons_append, Option.toList_some, Option.toList_none, forall_const, false_implies, true_implies, false_or, or_false, true_or, or_true, i_le, i_lt, i_eq, i_eq0, i_lt0, i_0le, i_0lt, i_le0, i_in1, i_cl, nI_add, pk_mul, pk_sub, i_div, i_rem, i_sh1, i_bit, i_or, i_and, i_andn, nt_le, nf_le, nt_lt, nf_lt, nt_eq, nf_eq, not_true_eq_false, and_self, and_false, false_and, eq_self, Bool.toNat_true, Bool.toNat_false, i_bool, i_bool1, Bool.false_eq_true, Bool.true_eq_false, reduceCtorEq, i_neg1, i_neg2, i_neg3, i_neg4, i_neg5, i_neg6, i_neg7, i_neg8, i_neg9, i_nega, i_negb, i_negc, i_max2, i_min2])
                refine c_refuse (by decide) ?_
                try simp (disch := omega) only [no0, no1, nz1, nz2, nz3, nz4, nz5, nz7, nz8, Classical.not_not, bz0, bz1, wi_nil, ld_0, ld_s, isIv_I, isLv_L, isRv_R, true_and, and_true, lset_0, lset_1, lset_s, avw_I, avw_L, avw_R, clr_cons, clr_nil, kst_0, kst_1, kstL_0, kstL_1, addk_I, pA_0, pA_s, pD_0, pD_s, wid_nil, wid_cons, rcv_c, putv_I, putv_L, List.length_cons, List.length_nil, List.set_cons_zero, List.set_cons_succ, not_false_eq_true, Nat.reduceMod, Nat.reduceDiv, Nat.reduceEqDiff, Nat.reduceLT, Nat.reduceLeDiff, Nat.reduceAdd, Nat.reduceSub, reduceIte, Nat.lt_irrefl, Nat.zero_ne_one, Nat.one_ne_zero, Nat.zero_add, List.nil_append, List.cons_append, Option.toList_some, Option.toList_none, forall_const, false_implies, true_implies, false_or, or_false, true_or, or_true, i_le, i_lt, i_eq, i_eq0, i_lt0, i_0le, i_0lt, i_le0, i_in1, i_cl, nI_add, pk_mul, pk_sub, i_div, i_rem, i_sh1, i_bit, i_or, i_and, i_andn, nt_le, nf_le, nt_lt, nf_lt, nt_eq, nf_eq, not_true_eq_false, and_self, and_false, false_and, eq_self, Bool.toNat_true, Bool.toNat_false, i_bool, i_bool1, Bool.false_eq_true, Bool.true_eq_false, reduceCtorEq, i_neg1, i_neg2, i_neg3, i_neg4, i_neg5, i_neg6, i_neg7, i_neg8, i_neg9, i_nega, i_negb, i_negc, i_max2, i_min2, wi_nil]
                repeat (
                  first
                  | refine s_X8_copy_0 ?_
                  | refine s_X8_copy_4 ?_
                  | refine s_X8_copy_11 ?_
                  | refine s_X8_copy_14 ?_
                  | refine s_X8_copy_16 ?_
                  | refine s_X8_copy_26 ?_
                  | refine s_X8_copy_27 ?_
                  | refine s_X8_copy_35 ?_
                  | refine s_X8_copy_46 ?_
                  | refine s_X8_copy_49 ?_
                  | refine s_X8_copy_54 ?_
                  | refine s_X8_copy_55 ?_
                  | refine s_X8_copy_66 ?_
                  | refine s_X8_copy_81 ?_
                  | refine s_X8_copy_84 ?_
                  | refine s_X8_copy_89 ?_
                  | refine s_X8_copy_90 ?_
                  | refine s_X8_copy_104 ?_
                  simp (disch := omega) only [B_X8_copy_0, wi_iload_n, wi_invokestatic, B_X8_copy_4, wi_if_eq, B_X8_copy_11, wi_if_ne, B_X8_copy_14, wi_iconst, wi_ireturn, B_X8_copy_16, wi_iload, wi_if_ge, wi_aload_n, wi_invokevirtual, cnt_7, B_X8_copy_26, B_X8_copy_27, wi_getfield, fldv_7_0, fds_7_0, cnt_3, B_X8_copy_35, B_X8_copy_46, B_X8_copy_49, B_X8_copy_54, B_X8_copy_55, B_X8_copy_66, B_X8_copy_81, B_X8_copy_84, B_X8_copy_89, B_X8_copy_90, B_X8_copy_104, no0, no1, nz1, nz2, nz3, nz4, nz5, nz7, nz8, Classical.not_not, bz0, bz1, wi_nil, ld_0, ld_s, isIv_I, isLv_L, isRv_R, true_and, and_true, lset_0, lset_1, lset_s, avw_I, avw_L, avw_R, clr_cons, clr_nil, kst_0, kst_1, kstL_0, kstL_1, addk_I, pA_0, pA_s, pD_0, pD_s, wid_nil, wid_cons, rcv_c, putv_I, putv_L, List.length_cons, List.length_nil, List.set_cons_zero, List.set_cons_succ, not_false_eq_true, Nat.reduceMod, Nat.reduceDiv, Nat.reduceEqDiff, Nat.reduceLT, Nat.reduceLeDiff, Nat.reduceAdd, Nat.reduceSub, reduceIte, Nat.lt_irrefl, Nat.zero_ne_one, Nat.one_ne_zero, Nat.zero_add, List.nil_append, List.cons_append, Option.toList_some, Option.toList_none, forall_const, false_implies, true_implies, false_or, or_false, true_or, or_true, i_le, i_lt, i_eq, i_eq0, i_lt0, i_0le, i_0lt, i_le0, i_in1, i_cl, nI_add, pk_mul, pk_sub, i_div, i_rem, i_sh1, i_bit, i_or, i_and, i_andn, nt_le, nf_le, nt_lt, nf_lt, nt_eq, nf_eq, not_true_eq_false, and_self, and_false, false_and, eq_self, Bool.toNat_true, Bool.toNat_false, i_bool, i_bool1, Bool.false_eq_true, Bool.true_eq_false, reduceCtorEq, i_neg1, i_neg2, i_neg3, i_neg4, i_neg5, i_neg6, i_neg7, i_neg8, i_neg9, i_nega, i_negb, i_negc, i_max2, i_min2])
                refine px ?_
                refine x_entry (ls2 := [aR 8 0, aI (nI r0), aI i, aI (nI t0), aI j, aI n, aU]) (Nat.le_of_ble_eq_true rfl) pl_9 rfl (Nat.le_of_ble_eq_true rfl) ?_
                try simp (disch := omega) only [no0, no1, nz1, nz2, nz3, nz4, nz5, nz7, nz8, Classical.not_not, bz0, bz1, wi_nil, ld_0, ld_s, isIv_I, isLv_L, isRv_R, true_and, and_true, lset_0, lset_1, lset_s, avw_I, avw_L, avw_R, clr_cons, clr_nil, kst_0, kst_1, kstL_0, kstL_1, addk_I, pA_0, pA_s, pD_0, pD_s, wid_nil, wid_cons, rcv_c, putv_I, putv_L, List.length_cons, List.length_nil, List.set_cons_zero, List.set_cons_succ, not_false_eq_true, Nat.reduceMod, Nat.reduceDiv, Nat.reduceEqDiff, Nat.reduceLT, Nat.reduceLeDiff, Nat.reduceAdd, Nat.reduceSub, reduceIte, Nat.lt_irrefl, Nat.zero_ne_one, Nat.one_ne_zero, Nat.zero_add, List.nil_append, List.cons_append, Option.toList_some, Option.toList_none, forall_const, false_implies, true_implies, false_or, or_false, true_or, or_true, i_le, i_lt, i_eq, i_eq0, i_lt0, i_0le, i_0lt, i_le0, i_in1, i_cl, nI_add, pk_mul, pk_sub, i_div, i_rem, i_sh1, i_bit, i_or, i_and, i_andn, nt_le, nf_le, nt_lt, nf_lt, nt_eq, nf_eq, not_true_eq_false, and_self, and_false, false_and, eq_self, Bool.toNat_true, Bool.toNat_false, i_bool, i_bool1, Bool.false_eq_true, Bool.true_eq_false, reduceCtorEq, i_neg1, i_neg2, i_neg3, i_neg4, i_neg5, i_neg6, i_neg7, i_neg8, i_neg9, i_nega, i_negb, i_negc, i_max2, i_min2, wi_nil]
                repeat (
                  first
                  | refine s_X9_copy_0 ?_
                  | refine s_X9_copy_4 ?_
                  | refine s_X9_copy_11 ?_
                  | refine s_X9_copy_14 ?_
                  | refine s_X9_copy_16 ?_
                  | refine s_X9_copy_26 ?_
                  | refine s_X9_copy_27 ?_
                  | refine s_X9_copy_45 ?_
                  | refine s_X9_copy_50 ?_
                  | refine s_X9_copy_51 ?_
                  | refine s_X9_copy_95 ?_
                  | refine s_X9_copy_100 ?_
                  | refine s_X9_copy_101 ?_
                  | refine s_X9_copy_126 ?_
                  | refine s_X9_copy_133 ?_
                  | refine s_X9_copy_171 ?_
                  simp (disch := omega) only [B_X9_copy_0, wi_iload_n, wi_invokestatic, B_X9_copy_4, wi_if_eq, B_X9_copy_11, wi_if_ne, B_X9_copy_14, wi_iconst, wi_ireturn, B_X9_copy_16, wi_iload, wi_if_ge, wi_aload_n, wi_invokevirtual, cnt_8, B_X9_copy_26, B_X9_copy_27, wi_getfield, fldv_8_5, fds_8_5, wi_iaload, wi_if_lt, cnt_31, aTy_31, aLn_31, arr_31, cnt_32, aTy_32, aLn_32, arr_32, cnt_33, aTy_33, aLn_33, arr_33, B_X9_copy_45, B_X9_copy_50, B_X9_copy_51, wi_i2l, wi_ladd, wi_lcmp, wi_if_gt, wi_if_le, B_X9_copy_95, B_X9_copy_100, B_X9_copy_101, wi_istore, B_X9_copy_104, wi_icmp_ge, fldv_8_7, fds_8_7, wi_iadd, B_X9_copy_126, wi_iastore, wi_iinc, wi_goto, B_X9_copy_133, B_X9_copy_136, fldv_8_6, fds_8_6, wi_bipush, wi_imul, B_X9_copy_171, no0, no1, nz1, nz2, nz3, nz4, nz5, nz7, nz8, Classical.not_not, bz0, bz1, wi_nil, ld_0, ld_s, isIv_I, isLv_L, isRv_R, true_and, and_true, lset_0, lset_1, lset_s, avw_I, avw_L, avw_R, clr_cons, clr_nil, kst_0, kst_1, kstL_0, kstL_1, addk_I, pA_0, pA_s, pD_0, pD_s, wid_nil, wid_cons, rcv_c, putv_I, putv_L, List.length_cons, List.length_nil, List.set_cons_zero, List.set_cons_succ, not_false_eq_true, Nat.reduceMod, Nat.reduceDiv, Nat.reduceEqDiff, Nat.reduceLT, Nat.reduceLeDiff, Nat.reduceAdd, Nat.reduceSub, reduceIte, Nat.lt_irrefl, Nat.zero_ne_one, Nat.one_ne_zero, Nat.zero_add, List.nil_append, List.cons_append, Option.toList_some, Option.toList_none, forall_const, false_implies, true_implies, false_or, or_false, true_or, or_true, i_le, i_lt, i_eq, i_eq0, i_lt0, i_0le, i_0lt, i_le0, i_in1, i_cl, nI_add, pk_mul, pk_sub, i_div, i_rem, i_sh1, i_bit, i_or, i_and, i_andn, nt_le, nf_le, nt_lt, nf_lt, nt_eq, nf_eq, not_true_eq_false, and_self, and_false, false_and, eq_self, Bool.toNat_true, Bool.toNat_false, i_bool, i_bool1, Bool.false_eq_true, Bool.true_eq_false, reduceCtorEq, i_neg1, i_neg2, i_neg3, i_neg4, i_neg5, i_neg6, i_neg7, i_neg8, i_neg9, i_nega, i_negb, i_negc, i_max2, i_min2])
                refine c_mRow ?_
                try simp (disch := omega) only [no0, no1, nz1, nz2, nz3, nz4, nz5, nz7, nz8, Classical.not_not, bz0, bz1, wi_nil, ld_0, ld_s, isIv_I, isLv_L, isRv_R, true_and, and_true, lset_0, lset_1, lset_s, avw_I, avw_L, avw_R, clr_cons, clr_nil, kst_0, kst_1, kstL_0, kstL_1, addk_I, pA_0, pA_s, pD_0, pD_s, wid_nil, wid_cons, rcv_c, putv_I, putv_L, List.length_cons, List.length_nil, List.set_cons_zero, List.set_cons_succ, not_false_eq_true, Nat.reduceMod, Nat.reduceDiv, Nat.reduceEqDiff, Nat.reduceLT, Nat.reduceLeDiff, Nat.reduceAdd, Nat.reduceSub, reduceIte, Nat.lt_irrefl, Nat.zero_ne_one, Nat.one_ne_zero, Nat.zero_add, List.nil_append, List.cons_append, Option.toList_some, Option.toList_none, forall_const, false_implies, true_implies, false_or, or_false, true_or, or_true, i_le, i_lt, i_eq, i_eq0, i_lt0, i_0le, i_0lt, i_le0, i_in1, i_cl, nI_add, pk_mul, pk_sub, i_div, i_rem, i_sh1, i_bit, i_or, i_and, i_andn, nt_le, nf_le, nt_lt, nf_lt, nt_eq, nf_eq, not_true_eq_false, and_self, and_false, false_and, eq_self, Bool.toNat_true, Bool.toNat_false, i_bool, i_bool1, Bool.false_eq_true, Bool.true_eq_false, reduceCtorEq, i_neg1, i_neg2, i_neg3, i_neg4, i_neg5, i_neg6, i_neg7, i_neg8, i_neg9, i_nega, i_negb, i_negc, i_max2, i_min2, hr, wi_nil]
                repeat (
                  first
                  | refine s_X9_copy_0 ?_
                  | refine s_X9_copy_4 ?_
                  | refine s_X9_copy_11 ?_
                  | refine s_X9_copy_14 ?_
                  | refine s_X9_copy_16 ?_
                  | refine s_X9_copy_26 ?_
                  | refine s_X9_copy_27 ?_
                  | refine s_X9_copy_45 ?_
                  | refine s_X9_copy_50 ?_
                  | refine s_X9_copy_51 ?_
                  | refine s_X9_copy_95 ?_
                  | refine s_X9_copy_100 ?_
                  | refine s_X9_copy_101 ?_
                  | refine s_X9_copy_126 ?_
                  | refine s_X9_copy_133 ?_
                  | refine s_X9_copy_171 ?_
                  simp (disch := omega) only [B_X9_copy_0, wi_iload_n, wi_invokestatic, B_X9_copy_4, wi_if_eq, B_X9_copy_11, wi_if_ne, B_X9_copy_14, wi_iconst, wi_ireturn, B_X9_copy_16, wi_iload, wi_if_ge, wi_aload_n, wi_invokevirtual, cnt_8, B_X9_copy_26, B_X9_copy_27, wi_getfield, fldv_8_5, fds_8_5, wi_iaload, wi_if_lt, cnt_31, aTy_31, aLn_31, arr_31, cnt_32, aTy_32, aLn_32, arr_32, cnt_33, aTy_33, aLn_33, arr_33, B_X9_copy_45, B_X9_copy_50, B_X9_copy_51, wi_i2l, wi_ladd, wi_lcmp, wi_if_gt, wi_if_le, B_X9_copy_95, B_X9_copy_100, B_X9_copy_101, wi_istore, B_X9_copy_104, wi_icmp_ge, fldv_8_7, fds_8_7, wi_iadd, B_X9_copy_126, wi_iastore, wi_iinc, wi_goto, B_X9_copy_133, B_X9_copy_136, fldv_8_6, fds_8_6, wi_bipush, wi_imul, B_X9_copy_171, no0, no1, nz1, nz2, nz3, nz4, nz5, nz7, nz8, Classical.not_not, bz0, bz1, wi_nil, ld_0, ld_s, isIv_I, isLv_L, isRv_R, true_and, and_true, lset_0, lset_1, lset_s, avw_I, avw_L, avw_R, clr_cons, clr_nil, kst_0, kst_1, kstL_0, kstL_1, addk_I, pA_0, pA_s, pD_0, pD_s, wid_nil, wid_cons, rcv_c, putv_I, putv_L, List.length_cons, List.length_nil, List.set_cons_zero, List.set_cons_succ, not_false_eq_true, Nat.reduceMod, Nat.reduceDiv, Nat.reduceEqDiff, Nat.reduceLT, Nat.reduceLeDiff, Nat.reduceAdd, Nat.reduceSub, reduceIte, Nat.lt_irrefl, Nat.zero_ne_one, Nat.one_ne_zero, Nat.zero_add, List.nil_append, List.cons_append, Option.toList_some, Option.toList_none, forall_const, false_implies, true_implies, false_or, or_false, true_or, or_true, i_le, i_lt, i_eq, i_eq0, i_lt0, i_0le, i_0lt, i_le0, i_in1, i_cl, nI_add, pk_mul, pk_sub, i_div, i_rem, i_sh1, i_bit, i_or, i_and, i_andn, nt_le, nf_le, nt_lt, nf_lt, nt_eq, nf_eq, not_true_eq_false, and_self, and_false, false_and, eq_self, Bool.toNat_true, Bool.toNat_false, i_bool, i_bool1, Bool.false_eq_true, Bool.true_eq_false, reduceCtorEq, i_neg1, i_neg2, i_neg3, i_neg4, i_neg5, i_neg6, i_neg7, i_neg8, i_neg9, i_nega, i_negb, i_negc, i_max2, i_min2, hr])
                refine c_mRow ?_
                try simp (disch := omega) only [no0, no1, nz1, nz2, nz3, nz4, nz5, nz7, nz8, Classical.not_not, bz0, bz1, wi_nil, ld_0, ld_s, isIv_I, isLv_L, isRv_R, true_and, and_true, lset_0, lset_1, lset_s, avw_I, avw_L, avw_R, clr_cons, clr_nil, kst_0, kst_1, kstL_0, kstL_1, addk_I, pA_0, pA_s, pD_0, pD_s, wid_nil, wid_cons, rcv_c, putv_I, putv_L, List.length_cons, List.length_nil, List.set_cons_zero, List.set_cons_succ, not_false_eq_true, Nat.reduceMod, Nat.reduceDiv, Nat.reduceEqDiff, Nat.reduceLT, Nat.reduceLeDiff, Nat.reduceAdd, Nat.reduceSub, reduceIte, Nat.lt_irrefl, Nat.zero_ne_one, Nat.one_ne_zero, Nat.zero_add, List.nil_append, List.cons_append, Option.toList_some, Option.toList_none, forall_const, false_implies, true_implies, false_or, or_false, true_or, or_true, i_le, i_lt, i_eq, i_eq0, i_lt0, i_0le, i_0lt, i_le0, i_in1, i_cl, nI_add, pk_mul, pk_sub, i_div, i_rem, i_sh1, i_bit, i_or, i_and, i_andn, nt_le, nf_le, nt_lt, nf_lt, nt_eq, nf_eq, not_true_eq_false, and_self, and_false, false_and, eq_self, Bool.toNat_true, Bool.toNat_false, i_bool, i_bool1, Bool.false_eq_true, Bool.true_eq_false, reduceCtorEq, i_neg1, i_neg2, i_neg3, i_neg4, i_neg5, i_neg6, i_neg7, i_neg8, i_neg9, i_nega, i_negb, i_negc, i_max2, i_min2, ht, hn1, (show gA (xRef 2 S) 31 0 r0 = nI z from hsr), (show gA (xRef 2 S) 31 0 t0 = nI y from hst), wi_nil]
                repeat (
                  first
                  | refine s_X9_copy_0 ?_
                  | refine s_X9_copy_4 ?_
                  | refine s_X9_copy_11 ?_
                  | refine s_X9_copy_14 ?_
                  | refine s_X9_copy_16 ?_
                  | refine s_X9_copy_26 ?_
                  | refine s_X9_copy_27 ?_
                  | refine s_X9_copy_45 ?_
                  | refine s_X9_copy_50 ?_
                  | refine s_X9_copy_95 ?_
                  | refine s_X9_copy_100 ?_
                  | refine s_X9_copy_101 ?_
                  | refine s_X9_copy_126 ?_
                  | refine s_X9_copy_133 ?_
                  | refine s_X9_copy_171 ?_
                  simp (disch := omega) only [B_X9_copy_0, wi_iload_n, wi_invokestatic, B_X9_copy_4, wi_if_eq, B_X9_copy_11, wi_if_ne, B_X9_copy_14, wi_iconst, wi_ireturn, B_X9_copy_16, wi_iload, wi_if_ge, wi_aload_n, wi_invokevirtual, cnt_8, B_X9_copy_26, B_X9_copy_27, wi_getfield, fldv_8_5, fds_8_5, wi_iaload, wi_if_lt, cnt_31, aTy_31, aLn_31, arr_31, cnt_32, aTy_32, aLn_32, arr_32, cnt_33, aTy_33, aLn_33, arr_33, B_X9_copy_45, B_X9_copy_50, B_X9_copy_51, wi_i2l, wi_ladd, wi_lcmp, wi_if_gt, wi_if_le, B_X9_copy_95, B_X9_copy_100, B_X9_copy_101, wi_istore, B_X9_copy_104, wi_icmp_ge, fldv_8_7, fds_8_7, wi_iadd, B_X9_copy_126, wi_iastore, wi_iinc, wi_goto, B_X9_copy_133, B_X9_copy_136, fldv_8_6, fds_8_6, wi_bipush, wi_imul, B_X9_copy_171, no0, no1, nz1, nz2, nz3, nz4, nz5, nz7, nz8, Classical.not_not, bz0, bz1, wi_nil, ld_0, ld_s, isIv_I, isLv_L, isRv_R, true_and, and_true, lset_0, lset_1, lset_s, avw_I, avw_L, avw_R, clr_cons, clr_nil, kst_0, kst_1, kstL_0, kstL_1, addk_I, pA_0, pA_s, pD_0, pD_s, wid_nil, wid_cons, rcv_c, putv_I, putv_L, List.length_cons, List.length_nil, List.set_cons_zero, List.set_cons_succ, not_false_eq_true, Nat.reduceMod, Nat.reduceDiv, Nat.reduceEqDiff, Nat.reduceLT, Nat.reduceLeDiff, Nat.reduceAdd, Nat.reduceSub, reduceIte, Nat.lt_irrefl, Nat.zero_ne_one, Nat.one_ne_zero, Nat.zero_add, List.nil_append, List.cons_append, Option.toList_some, Option.toList_none, forall_const, false_implies, true_implies, false_or, or_false, true_or, or_true, i_le, i_lt, i_eq, i_eq0, i_lt0, i_0le, i_0lt, i_le0, i_in1, i_cl, nI_add, pk_mul, pk_sub, i_div, i_rem, i_sh1, i_bit, i_or, i_and, i_andn, nt_le, nf_le, nt_lt, nf_lt, nt_eq, nf_eq, not_true_eq_false, and_self, and_false, false_and, eq_self, Bool.toNat_true, Bool.toNat_false, i_bool, i_bool1, Bool.false_eq_true, Bool.true_eq_false, reduceCtorEq, i_neg1, i_neg2, i_neg3, i_neg4, i_neg5, i_neg6, i_neg7, i_neg8, i_neg9, i_nega, i_negb, i_negc, i_max2, i_min2, ht, hn1, (show gA (xRef 2 S) 31 0 r0 = nI z from hsr), (show gA (xRef 2 S) 31 0 t0 = nI y from hst)])
                refine s_X9_copy_51 ?_
                simp (disch := omega) only [B_X9_copy_51, wi_iload_n, wi_if_lt, wi_iload, wi_i2l, wi_ladd, wi_aload_n, wi_getfield, fldv_8_5, fds_8_5, cnt_8, wi_iaload, wi_lcmp, wi_if_gt, wi_if_le, cnt_31, aTy_31, aLn_31, arr_31, cnt_32, aTy_32, aLn_32, arr_32, cnt_33, aTy_33, aLn_33, arr_33, no0, no1, nz1, nz2, nz3, nz4, nz5, nz7, nz8, Classical.not_not, bz0, bz1, wi_nil, ld_0, ld_s, isIv_I, isLv_L, isRv_R, true_and, and_true, lset_0, lset_1, lset_s, avw_I, avw_L, avw_R, clr_cons, clr_nil, kst_0, kst_1, kstL_0, kstL_1, addk_I, pA_0, pA_s, pD_0, pD_s, wid_nil, wid_cons, rcv_c, putv_I, putv_L, List.length_cons, List.length_nil, List.set_cons_zero, List.set_cons_succ, not_false_eq_true, Nat.reduceMod, Nat.reduceDiv, Nat.reduceEqDiff, Nat.reduceLT, Nat.reduceLeDiff, Nat.reduceAdd, Nat.reduceSub, reduceIte, Nat.lt_irrefl, Nat.zero_ne_one, Nat.one_ne_zero, Nat.zero_add, List.nil_append, List.cons_append, Option.toList_some, Option.toList_none, forall_const, false_implies, true_implies, false_or, or_false, true_or, or_true, i_le, i_lt, i_eq, i_eq0, i_lt0, i_0le, i_0lt, i_le0, i_in1, i_cl, nI_add, pk_mul, pk_sub, i_div, i_rem, i_sh1, i_bit, i_or, i_and, i_andn, nt_le, nf_le, nt_lt, nf_lt, nt_eq, nf_eq, not_true_eq_false, and_self, and_false, false_and, eq_self, Bool.toNat_true, Bool.toNat_false, i_bool, i_bool1, Bool.false_eq_true, Bool.true_eq_false, reduceCtorEq, i_neg1, i_neg2, i_neg3, i_neg4, i_neg5, i_neg6, i_neg7, i_neg8, i_neg9, i_nega, i_negb, i_negc, i_max2, i_min2, (show gA (xRef 2 S) 31 0 r0 = nI z from hsr), (show gA (xRef 2 S) 31 0 t0 = nI y from hst), lc_gt, lc_le, lsum_ii, Int32.toInt_toInt64, hzi, hyi]
                have w95 : wpX (d + 9) mX9_copy 95 [aR 8 0, aU, aU, aU, aU, aU, aU] [] (xRef 2 S) (PM (-nI 3)) := by
                  try simp (disch := omega) only [no0, no1, nz1, nz2, nz3, nz4, nz5, nz7, nz8, Classical.not_not, bz0, bz1, wi_nil, ld_0, ld_s, isIv_I, isLv_L, isRv_R, true_and, and_true, lset_0, lset_1, lset_s, avw_I, avw_L, avw_R, clr_cons, clr_nil, kst_0, kst_1, kstL_0, kstL_1, addk_I, pA_0, pA_s, pD_0, pD_s, wid_nil, wid_cons, rcv_c, putv_I, putv_L, List.length_cons, List.length_nil, List.set_cons_zero, List.set_cons_succ, not_false_eq_true, Nat.reduceMod, Nat.reduceDiv, Nat.reduceEqDiff, Nat.reduceLT, Nat.reduceLeDiff, Nat.reduceAdd, Nat.reduceSub, reduceIte, Nat.lt_irrefl, Nat.zero_ne_one, Nat.one_ne_zero, Nat.zero_add, List.nil_append, List.cons_append, Option.toList_some, Option.toList_none, forall_const, false_implies, true_implies, false_or, or_false, true_or, or_true, i_le, i_lt, i_eq, i_eq0, i_lt0, i_0le, i_0lt, i_le0, i_in1, i_cl, nI_add, pk_mul, pk_sub, i_div, i_rem, i_sh1, i_bit, i_or, i_and, i_andn, nt_le, nf_le, nt_lt, nf_lt, nt_eq, nf_eq, not_true_eq_false, and_self, and_false, false_and, eq_self, Bool.toNat_true, Bool.toNat_false, i_bool, i_bool1, Bool.false_eq_true, Bool.true_eq_false, reduceCtorEq, i_neg1, i_neg2, i_neg3, i_neg4, i_neg5, i_neg6, i_neg7, i_neg8, i_neg9, i_nega, i_negb, i_negc, i_max2, i_min2, wi_nil]
                  repeat (
                    first
                    | refine s_X9_copy_0 ?_
                    | refine s_X9_copy_4 ?_
                    | refine s_X9_copy_11 ?_
                    | refine s_X9_copy_14 ?_
                    | refine s_X9_copy_16 ?_
                    | refine s_X9_copy_26 ?_
                    | refine s_X9_copy_27 ?_
                    | refine s_X9_copy_45 ?_
                    | refine s_X9_copy_50 ?_
                    | refine s_X9_copy_51 ?_
                    | refine s_X9_copy_95 ?_
                    | refine s_X9_copy_100 ?_
                    | refine s_X9_copy_101 ?_
                    | refine s_X9_copy_126 ?_
                    | refine s_X9_copy_133 ?_
                    | refine s_X9_copy_171 ?_
                    simp (disch := omega) only [B_X9_copy_0, wi_iload_n, wi_invokestatic, B_X9_copy_4, wi_if_eq, B_X9_copy_11, wi_if_ne, B_X9_copy_14, wi_iconst, wi_ireturn, B_X9_copy_16, wi_iload, wi_if_ge, wi_aload_n, wi_invokevirtual, cnt_8, B_X9_copy_26, B_X9_copy_27, wi_getfield, fldv_8_5, fds_8_5, wi_iaload, wi_if_lt, cnt_31, aTy_31, aLn_31, arr_31, cnt_32, aTy_32, aLn_32, arr_32, cnt_33, aTy_33, aLn_33, arr_33, B_X9_copy_45, B_X9_copy_50, B_X9_copy_51, wi_i2l, wi_ladd, wi_lcmp, wi_if_gt, wi_if_le, B_X9_copy_95, B_X9_copy_100, B_X9_copy_101, wi_istore, B_X9_copy_104, wi_icmp_ge, fldv_8_7, fds_8_7, wi_iadd, B_X9_copy_126, wi_iastore, wi_iinc, wi_goto, B_X9_copy_133, B_X9_copy_136, fldv_8_6, fds_8_6, wi_bipush, wi_imul, B_X9_copy_171, no0, no1, nz1, nz2, nz3, nz4, nz5, nz7, nz8, Classical.not_not, bz0, bz1, wi_nil, ld_0, ld_s, isIv_I, isLv_L, isRv_R, true_and, and_true, lset_0, lset_1, lset_s, avw_I, avw_L, avw_R, clr_cons, clr_nil, kst_0, kst_1, kstL_0, kstL_1, addk_I, pA_0, pA_s, pD_0, pD_s, wid_nil, wid_cons, rcv_c, putv_I, putv_L, List.length_cons, List.length_nil, List.set_cons_zero, List.set_cons_succ, not_false_eq_true, Nat.reduceMod, Nat.reduceDiv, Nat.reduceEqDiff, Nat.reduceLT, Nat.reduceLeDiff, Nat.reduceAdd, Nat.reduceSub, reduceIte, Nat.lt_irrefl, Nat.zero_ne_one, Nat.one_ne_zero, Nat.zero_add, List.nil_append, List.cons_append, Option.toList_some, Option.toList_none, forall_const, false_implies, true_implies, false_or, or_false, true_or, or_true, i_le, i_lt, i_eq, i_eq0, i_lt0, i_0le, i_0lt, i_le0, i_in1, i_cl, nI_add, pk_mul, pk_sub, i_div, i_rem, i_sh1, i_bit, i_or, i_and, i_andn, nt_le, nf_le, nt_lt, nf_lt, nt_eq, nf_eq, not_true_eq_false, and_self, and_false, false_and, eq_self, Bool.toNat_true, Bool.toNat_false, i_bool, i_bool1, Bool.false_eq_true, Bool.true_eq_false, reduceCtorEq, i_neg1, i_neg2, i_neg3, i_neg4, i_neg5, i_neg6, i_neg7, i_neg8, i_neg9, i_nega, i_negb, i_negc, i_max2, i_min2])
                  refine c_meets (by decide) ?_
                  try simp (disch := omega) only [no0, no1, nz1, nz2, nz3, nz4, nz5, nz7, nz8, Classical.not_not, bz0, bz1, wi_nil, ld_0, ld_s, isIv_I, isLv_L, isRv_R, true_and, and_true, lset_0, lset_1, lset_s, avw_I, avw_L, avw_R, clr_cons, clr_nil, kst_0, kst_1, kstL_0, kstL_1, addk_I, pA_0, pA_s, pD_0, pD_s, wid_nil, wid_cons, rcv_c, putv_I, putv_L, List.length_cons, List.length_nil, List.set_cons_zero, List.set_cons_succ, not_false_eq_true, Nat.reduceMod, Nat.reduceDiv, Nat.reduceEqDiff, Nat.reduceLT, Nat.reduceLeDiff, Nat.reduceAdd, Nat.reduceSub, reduceIte, Nat.lt_irrefl, Nat.zero_ne_one, Nat.one_ne_zero, Nat.zero_add, List.nil_append, List.cons_append, Option.toList_some, Option.toList_none, forall_const, false_implies, true_implies, false_or, or_false, true_or, or_true, i_le, i_lt, i_eq, i_eq0, i_lt0, i_0le, i_0lt, i_le0, i_in1, i_cl, nI_add, pk_mul, pk_sub, i_div, i_rem, i_sh1, i_bit, i_or, i_and, i_andn, nt_le, nf_le, nt_lt, nf_lt, nt_eq, nf_eq, not_true_eq_false, and_self, and_false, false_and, eq_self, Bool.toNat_true, Bool.toNat_false, i_bool, i_bool1, Bool.false_eq_true, Bool.true_eq_false, reduceCtorEq, i_neg1, i_neg2, i_neg3, i_neg4, i_neg5, i_neg6, i_neg7, i_neg8, i_neg9, i_nega, i_negb, i_negc, i_max2, i_min2, wi_nil]
                  repeat (
                    first
                    | refine s_X9_copy_0 ?_
                    | refine s_X9_copy_4 ?_
                    | refine s_X9_copy_11 ?_
                    | refine s_X9_copy_14 ?_
                    | refine s_X9_copy_16 ?_
                    | refine s_X9_copy_26 ?_
                    | refine s_X9_copy_27 ?_
                    | refine s_X9_copy_45 ?_
                    | refine s_X9_copy_50 ?_
                    | refine s_X9_copy_51 ?_
                    | refine s_X9_copy_95 ?_
                    | refine s_X9_copy_100 ?_
                    | refine s_X9_copy_101 ?_
                    | refine s_X9_copy_126 ?_
                    | refine s_X9_copy_133 ?_
                    | refine s_X9_copy_171 ?_
                    simp (disch := omega) only [B_X9_copy_0, wi_iload_n, wi_invokestatic, B_X9_copy_4, wi_if_eq, B_X9_copy_11, wi_if_ne, B_X9_copy_14, wi_iconst, wi_ireturn, B_X9_copy_16, wi_iload, wi_if_ge, wi_aload_n, wi_invokevirtual, cnt_8, B_X9_copy_26, B_X9_copy_27, wi_getfield, fldv_8_5, fds_8_5, wi_iaload, wi_if_lt, cnt_31, aTy_31, aLn_31, arr_31, cnt_32, aTy_32, aLn_32, arr_32, cnt_33, aTy_33, aLn_33, arr_33, B_X9_copy_45, B_X9_copy_50, B_X9_copy_51, wi_i2l, wi_ladd, wi_lcmp, wi_if_gt, wi_if_le, B_X9_copy_95, B_X9_copy_100, B_X9_copy_101, wi_istore, B_X9_copy_104, wi_icmp_ge, fldv_8_7, fds_8_7, wi_iadd, B_X9_copy_126, wi_iastore, wi_iinc, wi_goto, B_X9_copy_133, B_X9_copy_136, fldv_8_6, fds_8_6, wi_bipush, wi_imul, B_X9_copy_171, no0, no1, nz1, nz2, nz3, nz4, nz5, nz7, nz8, Classical.not_not, bz0, bz1, wi_nil, ld_0, ld_s, isIv_I, isLv_L, isRv_R, true_and, and_true, lset_0, lset_1, lset_s, avw_I, avw_L, avw_R, clr_cons, clr_nil, kst_0, kst_1, kstL_0, kstL_1, addk_I, pA_0, pA_s, pD_0, pD_s, wid_nil, wid_cons, rcv_c, putv_I, putv_L, List.length_cons, List.length_nil, List.set_cons_zero, List.set_cons_succ, not_false_eq_true, Nat.reduceMod, Nat.reduceDiv, Nat.reduceEqDiff, Nat.reduceLT, Nat.reduceLeDiff, Nat.reduceAdd, Nat.reduceSub, reduceIte, Nat.lt_irrefl, Nat.zero_ne_one, Nat.one_ne_zero, Nat.zero_add, List.nil_append, List.cons_append, Option.toList_some, Option.toList_none, forall_const, false_implies, true_implies, false_or, or_false, true_or, or_true, i_le, i_lt, i_eq, i_eq0, i_lt0, i_0le, i_0lt, i_le0, i_in1, i_cl, nI_add, pk_mul, pk_sub, i_div, i_rem, i_sh1, i_bit, i_or, i_and, i_andn, nt_le, nf_le, nt_lt, nf_lt, nt_eq, nf_eq, not_true_eq_false, and_self, and_false, false_and, eq_self, Bool.toNat_true, Bool.toNat_false, i_bool, i_bool1, Bool.false_eq_true, Bool.true_eq_false, reduceCtorEq, i_neg1, i_neg2, i_neg3, i_neg4, i_neg5, i_neg6, i_neg7, i_neg8, i_neg9, i_nega, i_negb, i_negc, i_max2, i_min2])
                  exact pm (r_ref h (by decide) Fr.refl)
                refine ⟨fun _ => w95, fun g1 => ⟨fun _ => w95, fun g2 => ⟨fun _ => w95, fun g3 => ⟨fun g4 => absurd ⟨decide_eq_true ?_, decide_eq_true ?_⟩ both, fun _ => w95⟩⟩⟩⟩
                · rw [Int32.lt_iff_toInt_lt, Int32.toInt_zero] at g1
                  omega
                · rw [Int32.lt_iff_toInt_lt, Int32.toInt_zero] at g2
                  omega
              refine c_RhasPart h1.1 hr0 hzr (by omega) hn0 ?_
              cases hA : hpB i n z
              · try simp (disch := omega) only [no0, no1, nz1, nz2, nz3, nz4, nz5, nz7, nz8, Classical.not_not, bz0, bz1, wi_nil, ld_0, ld_s, isIv_I, isLv_L, isRv_R, true_and, and_true, lset_0, lset_1, lset_s, avw_I, avw_L, avw_R, clr_cons, clr_nil, kst_0, kst_1, kstL_0, kstL_1, addk_I, pA_0, pA_s, pD_0, pD_s, wid_nil, wid_cons, rcv_c, putv_I, putv_L, List.length_cons, List.length_nil, List.set_cons_zero, List.set_cons_succ, not_false_eq_true, Nat.reduceMod, Nat.reduceDiv, Nat.reduceEqDiff, Nat.reduceLT, Nat.reduceLeDiff, Nat.reduceAdd, Nat.reduceSub, reduceIte, Nat.lt_irrefl, Nat.zero_ne_one, Nat.one_ne_zero, Nat.zero_add, List.nil_append, List.cons_append, Option.toList_some, Option.toList_none, forall_const, false_implies, true_implies, false_or, or_false, true_or, or_true, i_le, i_lt, i_eq, i_eq0, i_lt0, i_0le, i_0lt, i_le0, i_in1, i_cl, nI_add, pk_mul, pk_sub, i_div, i_rem, i_sh1, i_bit, i_or, i_and, i_andn, nt_le, nf_le, nt_lt, nf_lt, nt_eq, nf_eq, not_true_eq_false, and_self, and_false, false_and, eq_self, Bool.toNat_true, Bool.toNat_false, i_bool, i_bool1, Bool.false_eq_true, Bool.true_eq_false, reduceCtorEq, i_neg1, i_neg2, i_neg3, i_neg4, i_neg5, i_neg6, i_neg7, i_neg8, i_neg9, i_nega, i_negb, i_negc, i_max2, i_min2, hA, wi_nil]
                repeat (
                  first
                  | refine s_X8_copy_0 ?_
                  | refine s_X8_copy_4 ?_
                  | refine s_X8_copy_11 ?_
                  | refine s_X8_copy_14 ?_
                  | refine s_X8_copy_16 ?_
                  | refine s_X8_copy_26 ?_
                  | refine s_X8_copy_27 ?_
                  | refine s_X8_copy_35 ?_
                  | refine s_X8_copy_46 ?_
                  | refine s_X8_copy_49 ?_
                  | refine s_X8_copy_54 ?_
                  | refine s_X8_copy_55 ?_
                  | refine s_X8_copy_66 ?_
                  | refine s_X8_copy_81 ?_
                  | refine s_X8_copy_89 ?_
                  | refine s_X8_copy_90 ?_
                  | refine s_X8_copy_104 ?_
                  simp (disch := omega) only [B_X8_copy_0, wi_iload_n, wi_invokestatic, B_X8_copy_4, wi_if_eq, B_X8_copy_11, wi_if_ne, B_X8_copy_14, wi_iconst, wi_ireturn, B_X8_copy_16, wi_iload, wi_if_ge, wi_aload_n, wi_invokevirtual, cnt_7, B_X8_copy_26, B_X8_copy_27, wi_getfield, fldv_7_0, fds_7_0, cnt_3, B_X8_copy_35, B_X8_copy_46, B_X8_copy_49, B_X8_copy_54, B_X8_copy_55, B_X8_copy_66, B_X8_copy_81, B_X8_copy_84, B_X8_copy_89, B_X8_copy_90, B_X8_copy_104, no0, no1, nz1, nz2, nz3, nz4, nz5, nz7, nz8, Classical.not_not, bz0, bz1, wi_nil, ld_0, ld_s, isIv_I, isLv_L, isRv_R, true_and, and_true, lset_0, lset_1, lset_s, avw_I, avw_L, avw_R, clr_cons, clr_nil, kst_0, kst_1, kstL_0, kstL_1, addk_I, pA_0, pA_s, pD_0, pD_s, wid_nil, wid_cons, rcv_c, putv_I, putv_L, List.length_cons, List.length_nil, List.set_cons_zero, List.set_cons_succ, not_false_eq_true, Nat.reduceMod, Nat.reduceDiv, Nat.reduceEqDiff, Nat.reduceLT, Nat.reduceLeDiff, Nat.reduceAdd, Nat.reduceSub, reduceIte, Nat.lt_irrefl, Nat.zero_ne_one, Nat.one_ne_zero, Nat.zero_add, List.nil_append, List.cons_append, Option.toList_some, Option.toList_none, forall_const, false_implies, true_implies, false_or, or_false, true_or, or_true, i_le, i_lt, i_eq, i_eq0, i_lt0, i_0le, i_0lt, i_le0, i_in1, i_cl, nI_add, pk_mul, pk_sub, i_div, i_rem, i_sh1, i_bit, i_or, i_and, i_andn, nt_le, nf_le, nt_lt, nf_lt, nt_eq, nf_eq, not_true_eq_false, and_self, and_false, false_and, eq_self, Bool.toNat_true, Bool.toNat_false, i_bool, i_bool1, Bool.false_eq_true, Bool.true_eq_false, reduceCtorEq, i_neg1, i_neg2, i_neg3, i_neg4, i_neg5, i_neg6, i_neg7, i_neg8, i_neg9, i_nega, i_negb, i_negc, i_max2, i_min2, hA])
                exact fin
              · try simp (disch := omega) only [no0, no1, nz1, nz2, nz3, nz4, nz5, nz7, nz8, Classical.not_not, bz0, bz1, wi_nil, ld_0, ld_s, isIv_I, isLv_L, isRv_R, true_and, and_true, lset_0, lset_1, lset_s, avw_I, avw_L, avw_R, clr_cons, clr_nil, kst_0, kst_1, kstL_0, kstL_1, addk_I, pA_0, pA_s, pD_0, pD_s, wid_nil, wid_cons, rcv_c, putv_I, putv_L, List.length_cons, List.length_nil, List.set_cons_zero, List.set_cons_succ, not_false_eq_true, Nat.reduceMod, Nat.reduceDiv, Nat.reduceEqDiff, Nat.reduceLT, Nat.reduceLeDiff, Nat.reduceAdd, Nat.reduceSub, reduceIte, Nat.lt_irrefl, Nat.zero_ne_one, Nat.one_ne_zero, Nat.zero_add, List.nil_append, List.cons_append, Option.toList_some, Option.toList_none, forall_const, false_implies, true_implies, false_or, or_false, true_or, or_true, i_le, i_lt, i_eq, i_eq0, i_lt0, i_0le, i_0lt, i_le0, i_in1, i_cl, nI_add, pk_mul, pk_sub, i_div, i_rem, i_sh1, i_bit, i_or, i_and, i_andn, nt_le, nf_le, nt_lt, nf_lt, nt_eq, nf_eq, not_true_eq_false, and_self, and_false, false_and, eq_self, Bool.toNat_true, Bool.toNat_false, i_bool, i_bool1, Bool.false_eq_true, Bool.true_eq_false, reduceCtorEq, i_neg1, i_neg2, i_neg3, i_neg4, i_neg5, i_neg6, i_neg7, i_neg8, i_neg9, i_nega, i_negb, i_negc, i_max2, i_min2, hA, wi_nil]
                repeat (
                  first
                  | refine s_X8_copy_0 ?_
                  | refine s_X8_copy_4 ?_
                  | refine s_X8_copy_11 ?_
                  | refine s_X8_copy_14 ?_
                  | refine s_X8_copy_16 ?_
                  | refine s_X8_copy_26 ?_
                  | refine s_X8_copy_27 ?_
                  | refine s_X8_copy_35 ?_
                  | refine s_X8_copy_46 ?_
                  | refine s_X8_copy_49 ?_
                  | refine s_X8_copy_54 ?_
                  | refine s_X8_copy_55 ?_
                  | refine s_X8_copy_66 ?_
                  | refine s_X8_copy_81 ?_
                  | refine s_X8_copy_89 ?_
                  | refine s_X8_copy_90 ?_
                  | refine s_X8_copy_104 ?_
                  simp (disch := omega) only [B_X8_copy_0, wi_iload_n, wi_invokestatic, B_X8_copy_4, wi_if_eq, B_X8_copy_11, wi_if_ne, B_X8_copy_14, wi_iconst, wi_ireturn, B_X8_copy_16, wi_iload, wi_if_ge, wi_aload_n, wi_invokevirtual, cnt_7, B_X8_copy_26, B_X8_copy_27, wi_getfield, fldv_7_0, fds_7_0, cnt_3, B_X8_copy_35, B_X8_copy_46, B_X8_copy_49, B_X8_copy_54, B_X8_copy_55, B_X8_copy_66, B_X8_copy_81, B_X8_copy_84, B_X8_copy_89, B_X8_copy_90, B_X8_copy_104, no0, no1, nz1, nz2, nz3, nz4, nz5, nz7, nz8, Classical.not_not, bz0, bz1, wi_nil, ld_0, ld_s, isIv_I, isLv_L, isRv_R, true_and, and_true, lset_0, lset_1, lset_s, avw_I, avw_L, avw_R, clr_cons, clr_nil, kst_0, kst_1, kstL_0, kstL_1, addk_I, pA_0, pA_s, pD_0, pD_s, wid_nil, wid_cons, rcv_c, putv_I, putv_L, List.length_cons, List.length_nil, List.set_cons_zero, List.set_cons_succ, not_false_eq_true, Nat.reduceMod, Nat.reduceDiv, Nat.reduceEqDiff, Nat.reduceLT, Nat.reduceLeDiff, Nat.reduceAdd, Nat.reduceSub, reduceIte, Nat.lt_irrefl, Nat.zero_ne_one, Nat.one_ne_zero, Nat.zero_add, List.nil_append, List.cons_append, Option.toList_some, Option.toList_none, forall_const, false_implies, true_implies, false_or, or_false, true_or, or_true, i_le, i_lt, i_eq, i_eq0, i_lt0, i_0le, i_0lt, i_le0, i_in1, i_cl, nI_add, pk_mul, pk_sub, i_div, i_rem, i_sh1, i_bit, i_or, i_and, i_andn, nt_le, nf_le, nt_lt, nf_lt, nt_eq, nf_eq, not_true_eq_false, and_self, and_false, false_and, eq_self, Bool.toNat_true, Bool.toNat_false, i_bool, i_bool1, Bool.false_eq_true, Bool.true_eq_false, reduceCtorEq, i_neg1, i_neg2, i_neg3, i_neg4, i_neg5, i_neg6, i_neg7, i_neg8, i_neg9, i_nega, i_negb, i_negc, i_max2, i_min2, hA])
                refine c_RhasPart h1.1 ht0 hzt (by omega) hn0 ?_
                have hB : hpB j n y = false := by
                  cases hB : hpB j n y
                  · rfl
                  · exact absurd ⟨hA, hB⟩ both
                try simp (disch := omega) only [no0, no1, nz1, nz2, nz3, nz4, nz5, nz7, nz8, Classical.not_not, bz0, bz1, wi_nil, ld_0, ld_s, isIv_I, isLv_L, isRv_R, true_and, and_true, lset_0, lset_1, lset_s, avw_I, avw_L, avw_R, clr_cons, clr_nil, kst_0, kst_1, kstL_0, kstL_1, addk_I, pA_0, pA_s, pD_0, pD_s, wid_nil, wid_cons, rcv_c, putv_I, putv_L, List.length_cons, List.length_nil, List.set_cons_zero, List.set_cons_succ, not_false_eq_true, Nat.reduceMod, Nat.reduceDiv, Nat.reduceEqDiff, Nat.reduceLT, Nat.reduceLeDiff, Nat.reduceAdd, Nat.reduceSub, reduceIte, Nat.lt_irrefl, Nat.zero_ne_one, Nat.one_ne_zero, Nat.zero_add, List.nil_append, List.cons_append, Option.toList_some, Option.toList_none, forall_const, false_implies, true_implies, false_or, or_false, true_or, or_true, i_le, i_lt, i_eq, i_eq0, i_lt0, i_0le, i_0lt, i_le0, i_in1, i_cl, nI_add, pk_mul, pk_sub, i_div, i_rem, i_sh1, i_bit, i_or, i_and, i_andn, nt_le, nf_le, nt_lt, nf_lt, nt_eq, nf_eq, not_true_eq_false, and_self, and_false, false_and, eq_self, Bool.toNat_true, Bool.toNat_false, i_bool, i_bool1, Bool.false_eq_true, Bool.true_eq_false, reduceCtorEq, i_neg1, i_neg2, i_neg3, i_neg4, i_neg5, i_neg6, i_neg7, i_neg8, i_neg9, i_nega, i_negb, i_negc, i_max2, i_min2, hB, wi_nil]
                repeat (
                  first
                  | refine s_X8_copy_0 ?_
                  | refine s_X8_copy_4 ?_
                  | refine s_X8_copy_11 ?_
                  | refine s_X8_copy_14 ?_
                  | refine s_X8_copy_16 ?_
                  | refine s_X8_copy_26 ?_
                  | refine s_X8_copy_27 ?_
                  | refine s_X8_copy_35 ?_
                  | refine s_X8_copy_46 ?_
                  | refine s_X8_copy_49 ?_
                  | refine s_X8_copy_54 ?_
                  | refine s_X8_copy_55 ?_
                  | refine s_X8_copy_66 ?_
                  | refine s_X8_copy_81 ?_
                  | refine s_X8_copy_89 ?_
                  | refine s_X8_copy_90 ?_
                  | refine s_X8_copy_104 ?_
                  simp (disch := omega) only [B_X8_copy_0, wi_iload_n, wi_invokestatic, B_X8_copy_4, wi_if_eq, B_X8_copy_11, wi_if_ne, B_X8_copy_14, wi_iconst, wi_ireturn, B_X8_copy_16, wi_iload, wi_if_ge, wi_aload_n, wi_invokevirtual, cnt_7, B_X8_copy_26, B_X8_copy_27, wi_getfield, fldv_7_0, fds_7_0, cnt_3, B_X8_copy_35, B_X8_copy_46, B_X8_copy_49, B_X8_copy_54, B_X8_copy_55, B_X8_copy_66, B_X8_copy_81, B_X8_copy_84, B_X8_copy_89, B_X8_copy_90, B_X8_copy_104, no0, no1, nz1, nz2, nz3, nz4, nz5, nz7, nz8, Classical.not_not, bz0, bz1, wi_nil, ld_0, ld_s, isIv_I, isLv_L, isRv_R, true_and, and_true, lset_0, lset_1, lset_s, avw_I, avw_L, avw_R, clr_cons, clr_nil, kst_0, kst_1, kstL_0, kstL_1, addk_I, pA_0, pA_s, pD_0, pD_s, wid_nil, wid_cons, rcv_c, putv_I, putv_L, List.length_cons, List.length_nil, List.set_cons_zero, List.set_cons_succ, not_false_eq_true, Nat.reduceMod, Nat.reduceDiv, Nat.reduceEqDiff, Nat.reduceLT, Nat.reduceLeDiff, Nat.reduceAdd, Nat.reduceSub, reduceIte, Nat.lt_irrefl, Nat.zero_ne_one, Nat.one_ne_zero, Nat.zero_add, List.nil_append, List.cons_append, Option.toList_some, Option.toList_none, forall_const, false_implies, true_implies, false_or, or_false, true_or, or_true, i_le, i_lt, i_eq, i_eq0, i_lt0, i_0le, i_0lt, i_le0, i_in1, i_cl, nI_add, pk_mul, pk_sub, i_div, i_rem, i_sh1, i_bit, i_or, i_and, i_andn, nt_le, nf_le, nt_lt, nf_lt, nt_eq, nf_eq, not_true_eq_false, and_self, and_false, false_and, eq_self, Bool.toNat_true, Bool.toNat_false, i_bool, i_bool1, Bool.false_eq_true, Bool.true_eq_false, reduceCtorEq, i_neg1, i_neg2, i_neg3, i_neg4, i_neg5, i_neg6, i_neg7, i_neg8, i_neg9, i_nega, i_negb, i_negc, i_max2, i_min2, hB])
                exact fin
end
