-- PART 42: least, most
/-- a deed alone, k days on, of habit h -/
def lsZ (Y : Nat → Nat → Nat) (i h k : Nat) : Nat → Nat → Nat := yset (yset (yset Y 2 i h) 4 i (Y 4 i + k)) 6 1 (Y 6 1 + k)
def lsR (Y : Nat → Nat → Nat) (i : Nat) : Nat → Nat → Nat → Nat → Nat
  | 0, _, _, l => l
  | m + 1, k, h, l => lsR Y i m (k + 1) (grw (Y 0 i) h) (max l (prc (Y 0 i) (Y 1 i) h (Y 3 i) (Y 4 i + k) (Y 6 1 + k)))
section
variable {d B : Nat} {S : MS} {Y Y0 : Nat → Nat → Nat} {P : Option AV → MS → Prop}
theorem lsZ_at {i h k f t : Nat} : lsZ Y i h k f t = if f = 6 ∧ t = 1 then Y 6 1 + k else if f = 4 ∧ t = i then Y 4 i + k else if f = 2 ∧ t = i then h else Y f t := rfl
theorem lsZ_ok {i h k : Nat} (ho : YOk 40 Y) (hh : h ≤ 9) (hi : i < Y 6 0) : YOk (40 + k) (lsZ Y i h k) := by
  obtain ⟨⟨b0, b1, b2, b3, b4⟩, b5⟩ := ho
  have e : ∀ t, ¬ t = 1 → lsZ Y i h k 6 t = Y 6 t := fun t ht => by rw [lsZ_at, if_neg (by omega), if_neg (by omega), if_neg (by omega)]
  refine ⟨⟨?_, ?_, ?_, ?_, ?_⟩, fun t ht => ?_⟩
  · rw [e 0 (by decide)]; exact b0
  · rw [lsZ_at, if_pos ⟨rfl, rfl⟩]; omega
  · rw [e 2 (by decide)]; exact b2
  · rw [e 3 (by decide)]; exact b3
  · rw [e 4 (by decide), e 0 (by decide)]; exact b4
  · rw [e 0 (by decide)] at ht
    have hb := b5 t ht
    have hbi := b5 i hi
    have z0 : lsZ Y i h k 0 t = Y 0 t := by rw [lsZ_at, if_neg (by omega), if_neg (by omega), if_neg (by omega)]
    have z1 : lsZ Y i h k 1 t = Y 1 t := by rw [lsZ_at, if_neg (by omega), if_neg (by omega), if_neg (by omega)]
    have z3 : lsZ Y i h k 3 t = Y 3 t := by rw [lsZ_at, if_neg (by omega), if_neg (by omega), if_neg (by omega)]
    have z5 : lsZ Y i h k 5 t = Y 5 t := by rw [lsZ_at, if_neg (by omega), if_neg (by omega), if_neg (by omega)]
    have z2 : lsZ Y i h k 2 t ≤ 9 := by
      rw [lsZ_at, if_neg (by omega), if_neg (by omega)]
      split <;> omega
    have z4 : lsZ Y i h k 4 t ≤ 40 + k := by
      rw [lsZ_at, if_neg (by omega)]
      split
      · omega
      · rw [if_neg (by omega)]; omega
    rw [z0, z1, z3, z5]
    exact ⟨hb.1, hb.2.1, z2, hb.2.2.2.1, z4, by omega⟩
theorem yc_ls {i h k : Nat} : yc (lsZ Y i h k) i = prc (Y 0 i) (Y 1 i) h (Y 3 i) (Y 4 i + k) (Y 6 1 + k) := by
  unfold yc
  have z0 : lsZ Y i h k 0 i = Y 0 i := by rw [lsZ_at, if_neg (by omega), if_neg (by omega), if_neg (by omega)]
  have z1 : lsZ Y i h k 1 i = Y 1 i := by rw [lsZ_at, if_neg (by omega), if_neg (by omega), if_neg (by omega)]
  have z3 : lsZ Y i h k 3 i = Y 3 i := by rw [lsZ_at, if_neg (by omega), if_neg (by omega), if_neg (by omega)]
  have z2 : lsZ Y i h k 2 i = h := by rw [lsZ_at, if_neg (by omega), if_neg (by omega), if_pos ⟨rfl, rfl⟩]
  have z4 : lsZ Y i h k 4 i = Y 4 i + k := by rw [lsZ_at, if_neg (by omega), if_pos ⟨rfl, rfl⟩]
  have z6 : lsZ Y i h k 6 1 = Y 6 1 + k := by rw [lsZ_at, if_pos ⟨rfl, rfl⟩]
  rw [z0, z1, z2, z3, z4, z6]
theorem lsZ_0 {i : Nat} : lsZ Y i (Y 2 i) 0 = Y := by
  funext f t
  rw [lsZ_at]
  split
  · rename_i h; rw [h.1, h.2]; rfl
  · split
    · rename_i h; rw [h.1, h.2]; rfl
    · split
      · rename_i h; rw [h.1, h.2]
      · rfl
theorem yrm_ls {i h k h2 : Nat} {r : Nat → Int32} (hm : YrM S 41 (lsZ Y i h k)) (hi5 : i < 5) (hn5 : Y 6 0 ≤ 5) (h1 : r = upd (upd (upd (gA S 41 0) (4 + i) (nI h2)) (9 + i) (nI (Y 4 i + k + 1))) 0 (nI (Y 6 1 + k + 1))) : YrM (sA S 41 0 r) 41 (lsZ Y i h2 (k + 1)) := by
  subst h1
  have e : ∀ h k t, ¬ t = 1 → lsZ Y i h k 6 t = Y 6 t := fun h k t ht => by rw [lsZ_at, if_neg (by omega), if_neg (by omega), if_neg (by omega)]
  have c : ∀ h k f t, (f = 0 ∨ f = 1 ∨ f = 3 ∨ f = 5) → lsZ Y i h k f t = Y f t := fun h k f t hf => by rw [lsZ_at, if_neg (by omega), if_neg (by omega), if_neg (by omega)]
  obtain ⟨⟨b1, b2⟩, ⟨a0, a1, a2, a3⟩, a4⟩ := hm
  rw [e _ _ 0 (by decide)] at b1 b2 a4
  rw [e _ _ 2 (by decide)] at a1
  rw [e _ _ 3 (by decide)] at a2
  rw [e _ _ 4 (by decide)] at a3
  refine ⟨⟨?_, fun t ht => ?_⟩, ⟨?_, ?_, ?_, ?_⟩, fun t ht => ?_⟩
  · rw [e _ _ 0 (by decide)]; exact b1
  · rw [e _ _ 0 (by decide)] at ht
    have := b2 t ht
    rw [c _ _ 0 t (by omega), c _ _ 1 t (by omega), c _ _ 3 t (by omega)] at this ⊢
    exact this
  · rw [gA_same, pk_us, lsZ_at, if_pos ⟨rfl, rfl⟩]; rfl
  · rw [gA_same, pk_un (by omega), pk_un (by omega), pk_un (by omega), e _ _ 2 (by decide)]; exact a1
  · rw [gA_same, pk_un (by omega), pk_un (by omega), pk_un (by omega), e _ _ 3 (by decide)]; exact a2
  · rw [gA_same, pk_un (by omega), pk_un (by omega), pk_un (by omega), e _ _ 4 (by decide)]; exact a3
  · rw [e _ _ 0 (by decide)] at ht
    obtain ⟨c1, c2, c3⟩ := a4 t ht
    rw [c _ _ 5 t (by omega)] at c3 ⊢
    rw [gA_same, Nat.zero_add, Nat.zero_add, Nat.zero_add]
    rw [Nat.zero_add] at c1 c2 c3
    refine ⟨?_, ?_, ?_⟩
    · rw [pk_un (by omega), pk_un (by omega)]
      by_cases q : t = i
      · subst q; rw [pk_us, lsZ_at, if_neg (by omega), if_neg (by omega), if_pos ⟨rfl, rfl⟩]
      · rw [pk_un (by omega), c1, lsZ_at, if_neg (by omega), if_neg (by omega), if_neg (by omega), lsZ_at, if_neg (by omega), if_neg (by omega), if_neg (by omega)]
    · rw [pk_un (by omega)]
      by_cases q : t = i
      · subst q; rw [pk_us, lsZ_at, if_neg (by omega), if_pos ⟨rfl, rfl⟩]; rfl
      · rw [pk_un (by omega), pk_un (by omega), c2, lsZ_at, if_neg (by omega), if_neg (by omega), if_neg (by omega), lsZ_at, if_neg (by omega), if_neg (by omega), if_neg (by omega)]
    · rw [pk_un (by omega), pk_un (by omega), pk_un (by omega)]
      exact c3
theorem l_xleast {i n : Nat} {R : Nat} (hn : n ≤ 30) (hi : i < Y 6 0) (hy : YrX S 1 Y) (ho : YOk 40 Y) (q : P (some (aI (nI R))) S) :
    ∀ (m k h l : Nat), k + m = n → h ≤ 9 → l ≤ 18 → lsR Y i m k h l = R → wpX (d + 9) mX8_least 36 [aR 7 0, aI (nI i), aI (nI n), aI (nI h), aI (nI l), aI (nI k), aU] [] S P := by
  have hn5 := ho.1.1
  have hb := ho.2 i hi
  have hdd := ho.1.2.1
  intro m
  induction m with
  | zero =>
    intro k h l hk hh hl hR
    have e : k = n := by omega
    subst e
    subst hR
    refine s_X8_least_36 ?_
    simp (disch := omega) only [B_X8_least_36, wi_iload, wi_iload_n, wi_icmp_ge, wi_aload_n, wi_getfield, fldv_7_3, fds_7_3, cnt_7, fldv_6_0, fds_6_0, cnt_6, wi_iaload, fldv_6_1, fds_6_1, fldv_6_3, fds_6_3, fldv_6_4, fds_6_4, wi_iadd, fldv_6_8, fds_6_8, wi_invokestatic, cnt_20, aTy_20, aLn_20, arr_20, cnt_21, aTy_21, aLn_21, arr_21, cnt_22, aTy_22, aLn_22, arr_22, cnt_23, aTy_23, aLn_23, arr_23, cnt_24, aTy_24, aLn_24, arr_24, no0, no1, nz1, nz2, nz3, nz4, nz5, nz7, nz8, Classical.not_not, bz0, bz1, wi_nil, ld_0, ld_s, isIv_I, isLv_L, isRv_R, true_and, and_true, lset_0, lset_1, lset_s, avw_I, avw_L, avw_R, clr_cons, clr_nil, kst_0, kst_1, kstL_0, kstL_1, addk_I, pA_0, pA_s, pD_0, pD_s, wid_nil, wid_cons, rcv_c, putv_I, putv_L, List.length_cons, List.length_nil, List.set_cons_zero, List.set_cons_succ, not_false_eq_true, Nat.reduceMod, Nat.reduceDiv, Nat.reduceEqDiff, Nat.reduceLT, Nat.reduceLeDiff, Nat.reduceAdd, Nat.reduceSub, reduceIte, Nat.lt_irrefl, Nat.zero_ne_one, Nat.one_ne_zero, Nat.zero_add, List.nil_append, List.cons_append, Option.toList_some, Option.toList_none, forall_const, false_implies, true_implies, false_or, or_false, true_or, or_true, i_le, i_lt, i_eq, i_eq0, i_lt0, i_0le, i_0lt, i_le0, i_in1, i_cl, nI_add, pk_mul, pk_sub, i_div, i_rem, i_sh1, i_bit, i_or, i_and, i_andn, nt_le, nf_le, nt_lt, nf_lt, nt_eq, nf_eq, not_true_eq_false, and_self, and_false, false_and, eq_self, Bool.toNat_true, Bool.toNat_false, i_bool, i_bool1, Bool.false_eq_true, Bool.true_eq_false, reduceCtorEq, i_neg1, i_neg2, i_neg3, i_neg4, i_neg5, i_neg6, i_neg7, i_neg8, i_neg9, i_nega, i_negb, i_negc, i_max2, i_min2]
    try simp (disch := omega) only [no0, no1, nz1, nz2, nz3, nz4, nz5, nz7, nz8, Classical.not_not, bz0, bz1, wi_nil, ld_0, ld_s, isIv_I, isLv_L, isRv_R, true_and, and_true, lset_0, lset_1, lset_s, avw_I, avw_L, avw_R, clr_cons, clr_nil, kst_0, kst_1, kstL_0, kstL_1, addk_I, pA_0, pA_s, pD_0, pD_s, wid_nil, wid_cons, rcv_c, putv_I, putv_L, List.length_cons, List.length_nil, List.set_cons_zero, List.set_cons_succ, not_false_eq_true, Nat.reduceMod, Nat.reduceDiv, Nat.reduceEqDiff, Nat.reduceLT, Nat.reduceLeDiff, Nat.reduceAdd, Nat.reduceSub, reduceIte, Nat.lt_irrefl, Nat.zero_ne_one, Nat.one_ne_zero, Nat.zero_add, List.nil_append, List.cons_append, Option.toList_some, Option.toList_none, forall_const, false_implies, true_implies, false_or, or_false, true_or, or_true, i_le, i_lt, i_eq, i_eq0, i_lt0, i_0le, i_0lt, i_le0, i_in1, i_cl, nI_add, pk_mul, pk_sub, i_div, i_rem, i_sh1, i_bit, i_or, i_and, i_andn, nt_le, nf_le, nt_lt, nf_lt, nt_eq, nf_eq, not_true_eq_false, and_self, and_false, false_and, eq_self, Bool.toNat_true, Bool.toNat_false, i_bool, i_bool1, Bool.false_eq_true, Bool.true_eq_false, reduceCtorEq, i_neg1, i_neg2, i_neg3, i_neg4, i_neg5, i_neg6, i_neg7, i_neg8, i_neg9, i_nega, i_negb, i_negc, i_max2, i_min2, wi_nil]
    repeat (
      first
      | refine s_X8_least_0 ?_
      | refine s_X8_least_5 ?_
      | refine s_X8_least_18 ?_
      | refine s_X8_least_20 ?_
      | refine s_X8_least_95 ?_
      | refine s_X8_least_119 ?_
      | refine s_X8_least_126 ?_
      simp (disch := omega) only [B_X8_least_0, wi_aload_n, wi_iload_n, wi_invokevirtual, cnt_7, B_X8_least_5, wi_if_eq, wi_if_lt, wi_bipush, wi_icmp_le, B_X8_least_18, wi_iconst, wi_ireturn, B_X8_least_20, wi_getfield, fldv_7_3, fds_7_3, fldv_6_2, fds_6_2, cnt_6, wi_iaload, wi_istore_n, wi_istore, cnt_20, aTy_20, aLn_20, arr_20, cnt_21, aTy_21, aLn_21, arr_21, cnt_22, aTy_22, aLn_22, arr_22, cnt_23, aTy_23, aLn_23, arr_23, cnt_24, aTy_24, aLn_24, arr_24, B_X8_least_36, wi_iload, wi_icmp_ge, fldv_6_0, fds_6_0, fldv_6_1, fds_6_1, fldv_6_3, fds_6_3, fldv_6_4, fds_6_4, wi_iadd, fldv_6_8, fds_6_8, wi_invokestatic, B_X8_least_95, wi_max, B_X8_least_119, wi_iinc, wi_goto, B_X8_least_126, no0, no1, nz1, nz2, nz3, nz4, nz5, nz7, nz8, Classical.not_not, bz0, bz1, wi_nil, ld_0, ld_s, isIv_I, isLv_L, isRv_R, true_and, and_true, lset_0, lset_1, lset_s, avw_I, avw_L, avw_R, clr_cons, clr_nil, kst_0, kst_1, kstL_0, kstL_1, addk_I, pA_0, pA_s, pD_0, pD_s, wid_nil, wid_cons, rcv_c, putv_I, putv_L, List.length_cons, List.length_nil, List.set_cons_zero, List.set_cons_succ, not_false_eq_true, Nat.reduceMod, Nat.reduceDiv, Nat.reduceEqDiff, Nat.reduceLT, Nat.reduceLeDiff, Nat.reduceAdd, Nat.reduceSub, reduceIte, Nat.lt_irrefl, Nat.zero_ne_one, Nat.one_ne_zero, Nat.zero_add, List.nil_append, List.cons_append, Option.toList_some, Option.toList_none, forall_const, false_implies, true_implies, false_or, or_false, true_or, or_true, i_le, i_lt, i_eq, i_eq0, i_lt0, i_0le, i_0lt, i_le0, i_in1, i_cl, nI_add, pk_mul, pk_sub, i_div, i_rem, i_sh1, i_bit, i_or, i_and, i_andn, nt_le, nf_le, nt_lt, nf_lt, nt_eq, nf_eq, not_true_eq_false, and_self, and_false, false_and, eq_self, Bool.toNat_true, Bool.toNat_false, i_bool, i_bool1, Bool.false_eq_true, Bool.true_eq_false, reduceCtorEq, i_neg1, i_neg2, i_neg3, i_neg4, i_neg5, i_neg6, i_neg7, i_neg8, i_neg9, i_nega, i_negb, i_negc, i_max2, i_min2])
    exact q
  | succ m ih =>
    intro k h l hk hh hl hR
    have hp := prc_le (k := Y 0 i) (h := h) (c := Y 4 i + k) (d := Y 6 1 + k) hb.2.1 hb.2.2.2.1
    refine s_X8_least_36 ?_
    simp (disch := omega) only [B_X8_least_36, wi_iload, wi_iload_n, wi_icmp_ge, wi_aload_n, wi_getfield, fldv_7_3, fds_7_3, cnt_7, fldv_6_0, fds_6_0, cnt_6, wi_iaload, fldv_6_1, fds_6_1, fldv_6_3, fds_6_3, fldv_6_4, fds_6_4, wi_iadd, fldv_6_8, fds_6_8, wi_invokestatic, cnt_20, aTy_20, aLn_20, arr_20, cnt_21, aTy_21, aLn_21, arr_21, cnt_22, aTy_22, aLn_22, arr_22, cnt_23, aTy_23, aLn_23, arr_23, cnt_24, aTy_24, aLn_24, arr_24, no0, no1, nz1, nz2, nz3, nz4, nz5, nz7, nz8, Classical.not_not, bz0, bz1, wi_nil, ld_0, ld_s, isIv_I, isLv_L, isRv_R, true_and, and_true, lset_0, lset_1, lset_s, avw_I, avw_L, avw_R, clr_cons, clr_nil, kst_0, kst_1, kstL_0, kstL_1, addk_I, pA_0, pA_s, pD_0, pD_s, wid_nil, wid_cons, rcv_c, putv_I, putv_L, List.length_cons, List.length_nil, List.set_cons_zero, List.set_cons_succ, not_false_eq_true, Nat.reduceMod, Nat.reduceDiv, Nat.reduceEqDiff, Nat.reduceLT, Nat.reduceLeDiff, Nat.reduceAdd, Nat.reduceSub, reduceIte, Nat.lt_irrefl, Nat.zero_ne_one, Nat.one_ne_zero, Nat.zero_add, List.nil_append, List.cons_append, Option.toList_some, Option.toList_none, forall_const, false_implies, true_implies, false_or, or_false, true_or, or_true, i_le, i_lt, i_eq, i_eq0, i_lt0, i_0le, i_0lt, i_le0, i_in1, i_cl, nI_add, pk_mul, pk_sub, i_div, i_rem, i_sh1, i_bit, i_or, i_and, i_andn, nt_le, nf_le, nt_lt, nf_lt, nt_eq, nf_eq, not_true_eq_false, and_self, and_false, false_and, eq_self, Bool.toNat_true, Bool.toNat_false, i_bool, i_bool1, Bool.false_eq_true, Bool.true_eq_false, reduceCtorEq, i_neg1, i_neg2, i_neg3, i_neg4, i_neg5, i_neg6, i_neg7, i_neg8, i_neg9, i_nega, i_negb, i_negc, i_max2, i_min2, (y_kind hy), (y_eff hy), (y_pull hy), (y_ch hy), (y_day hy)]
    refine c_price hb.1 hb.2.1 hh hb.2.2.2.1 (by omega) (by omega) ?_
    try simp (disch := omega) only [no0, no1, nz1, nz2, nz3, nz4, nz5, nz7, nz8, Classical.not_not, bz0, bz1, wi_nil, ld_0, ld_s, isIv_I, isLv_L, isRv_R, true_and, and_true, lset_0, lset_1, lset_s, avw_I, avw_L, avw_R, clr_cons, clr_nil, kst_0, kst_1, kstL_0, kstL_1, addk_I, pA_0, pA_s, pD_0, pD_s, wid_nil, wid_cons, rcv_c, putv_I, putv_L, List.length_cons, List.length_nil, List.set_cons_zero, List.set_cons_succ, not_false_eq_true, Nat.reduceMod, Nat.reduceDiv, Nat.reduceEqDiff, Nat.reduceLT, Nat.reduceLeDiff, Nat.reduceAdd, Nat.reduceSub, reduceIte, Nat.lt_irrefl, Nat.zero_ne_one, Nat.one_ne_zero, Nat.zero_add, List.nil_append, List.cons_append, Option.toList_some, Option.toList_none, forall_const, false_implies, true_implies, false_or, or_false, true_or, or_true, i_le, i_lt, i_eq, i_eq0, i_lt0, i_0le, i_0lt, i_le0, i_in1, i_cl, nI_add, pk_mul, pk_sub, i_div, i_rem, i_sh1, i_bit, i_or, i_and, i_andn, nt_le, nf_le, nt_lt, nf_lt, nt_eq, nf_eq, not_true_eq_false, and_self, and_false, false_and, eq_self, Bool.toNat_true, Bool.toNat_false, i_bool, i_bool1, Bool.false_eq_true, Bool.true_eq_false, reduceCtorEq, i_neg1, i_neg2, i_neg3, i_neg4, i_neg5, i_neg6, i_neg7, i_neg8, i_neg9, i_nega, i_negb, i_negc, i_max2, i_min2, (y_kind hy), wi_nil]
    repeat (
      first
      | refine s_X8_least_0 ?_
      | refine s_X8_least_5 ?_
      | refine s_X8_least_18 ?_
      | refine s_X8_least_20 ?_
      | refine s_X8_least_95 ?_
      | refine s_X8_least_119 ?_
      | refine s_X8_least_126 ?_
      simp (disch := omega) only [B_X8_least_0, wi_aload_n, wi_iload_n, wi_invokevirtual, cnt_7, B_X8_least_5, wi_if_eq, wi_if_lt, wi_bipush, wi_icmp_le, B_X8_least_18, wi_iconst, wi_ireturn, B_X8_least_20, wi_getfield, fldv_7_3, fds_7_3, fldv_6_2, fds_6_2, cnt_6, wi_iaload, wi_istore_n, wi_istore, cnt_20, aTy_20, aLn_20, arr_20, cnt_21, aTy_21, aLn_21, arr_21, cnt_22, aTy_22, aLn_22, arr_22, cnt_23, aTy_23, aLn_23, arr_23, cnt_24, aTy_24, aLn_24, arr_24, B_X8_least_36, wi_iload, wi_icmp_ge, fldv_6_0, fds_6_0, fldv_6_1, fds_6_1, fldv_6_3, fds_6_3, fldv_6_4, fds_6_4, wi_iadd, fldv_6_8, fds_6_8, wi_invokestatic, B_X8_least_95, wi_max, B_X8_least_119, wi_iinc, wi_goto, B_X8_least_126, no0, no1, nz1, nz2, nz3, nz4, nz5, nz7, nz8, Classical.not_not, bz0, bz1, wi_nil, ld_0, ld_s, isIv_I, isLv_L, isRv_R, true_and, and_true, lset_0, lset_1, lset_s, avw_I, avw_L, avw_R, clr_cons, clr_nil, kst_0, kst_1, kstL_0, kstL_1, addk_I, pA_0, pA_s, pD_0, pD_s, wid_nil, wid_cons, rcv_c, putv_I, putv_L, List.length_cons, List.length_nil, List.set_cons_zero, List.set_cons_succ, not_false_eq_true, Nat.reduceMod, Nat.reduceDiv, Nat.reduceEqDiff, Nat.reduceLT, Nat.reduceLeDiff, Nat.reduceAdd, Nat.reduceSub, reduceIte, Nat.lt_irrefl, Nat.zero_ne_one, Nat.one_ne_zero, Nat.zero_add, List.nil_append, List.cons_append, Option.toList_some, Option.toList_none, forall_const, false_implies, true_implies, false_or, or_false, true_or, or_true, i_le, i_lt, i_eq, i_eq0, i_lt0, i_0le, i_0lt, i_le0, i_in1, i_cl, nI_add, pk_mul, pk_sub, i_div, i_rem, i_sh1, i_bit, i_or, i_and, i_andn, nt_le, nf_le, nt_lt, nf_lt, nt_eq, nf_eq, not_true_eq_false, and_self, and_false, false_and, eq_self, Bool.toNat_true, Bool.toNat_false, i_bool, i_bool1, Bool.false_eq_true, Bool.true_eq_false, reduceCtorEq, i_neg1, i_neg2, i_neg3, i_neg4, i_neg5, i_neg6, i_neg7, i_neg8, i_neg9, i_nega, i_negb, i_negc, i_max2, i_min2, (y_kind hy)])
    refine c_grown hb.1 hh ?_
    try simp (disch := omega) only [no0, no1, nz1, nz2, nz3, nz4, nz5, nz7, nz8, Classical.not_not, bz0, bz1, wi_nil, ld_0, ld_s, isIv_I, isLv_L, isRv_R, true_and, and_true, lset_0, lset_1, lset_s, avw_I, avw_L, avw_R, clr_cons, clr_nil, kst_0, kst_1, kstL_0, kstL_1, addk_I, pA_0, pA_s, pD_0, pD_s, wid_nil, wid_cons, rcv_c, putv_I, putv_L, List.length_cons, List.length_nil, List.set_cons_zero, List.set_cons_succ, not_false_eq_true, Nat.reduceMod, Nat.reduceDiv, Nat.reduceEqDiff, Nat.reduceLT, Nat.reduceLeDiff, Nat.reduceAdd, Nat.reduceSub, reduceIte, Nat.lt_irrefl, Nat.zero_ne_one, Nat.one_ne_zero, Nat.zero_add, List.nil_append, List.cons_append, Option.toList_some, Option.toList_none, forall_const, false_implies, true_implies, false_or, or_false, true_or, or_true, i_le, i_lt, i_eq, i_eq0, i_lt0, i_0le, i_0lt, i_le0, i_in1, i_cl, nI_add, pk_mul, pk_sub, i_div, i_rem, i_sh1, i_bit, i_or, i_and, i_andn, nt_le, nf_le, nt_lt, nf_lt, nt_eq, nf_eq, not_true_eq_false, and_self, and_false, false_and, eq_self, Bool.toNat_true, Bool.toNat_false, i_bool, i_bool1, Bool.false_eq_true, Bool.true_eq_false, reduceCtorEq, i_neg1, i_neg2, i_neg3, i_neg4, i_neg5, i_neg6, i_neg7, i_neg8, i_neg9, i_nega, i_negb, i_negc, i_max2, i_min2, wi_nil]
    repeat (
      first
      | refine s_X8_least_0 ?_
      | refine s_X8_least_5 ?_
      | refine s_X8_least_18 ?_
      | refine s_X8_least_20 ?_
      | refine s_X8_least_95 ?_
      | refine s_X8_least_119 ?_
      | refine s_X8_least_126 ?_
      simp (disch := omega) only [B_X8_least_0, wi_aload_n, wi_iload_n, wi_invokevirtual, cnt_7, B_X8_least_5, wi_if_eq, wi_if_lt, wi_bipush, wi_icmp_le, B_X8_least_18, wi_iconst, wi_ireturn, B_X8_least_20, wi_getfield, fldv_7_3, fds_7_3, fldv_6_2, fds_6_2, cnt_6, wi_iaload, wi_istore_n, wi_istore, cnt_20, aTy_20, aLn_20, arr_20, cnt_21, aTy_21, aLn_21, arr_21, cnt_22, aTy_22, aLn_22, arr_22, cnt_23, aTy_23, aLn_23, arr_23, cnt_24, aTy_24, aLn_24, arr_24, B_X8_least_36, wi_iload, wi_icmp_ge, fldv_6_0, fds_6_0, fldv_6_1, fds_6_1, fldv_6_3, fds_6_3, fldv_6_4, fds_6_4, wi_iadd, fldv_6_8, fds_6_8, wi_invokestatic, B_X8_least_95, wi_max, B_X8_least_119, wi_iinc, wi_goto, B_X8_least_126, no0, no1, nz1, nz2, nz3, nz4, nz5, nz7, nz8, Classical.not_not, bz0, bz1, wi_nil, ld_0, ld_s, isIv_I, isLv_L, isRv_R, true_and, and_true, lset_0, lset_1, lset_s, avw_I, avw_L, avw_R, clr_cons, clr_nil, kst_0, kst_1, kstL_0, kstL_1, addk_I, pA_0, pA_s, pD_0, pD_s, wid_nil, wid_cons, rcv_c, putv_I, putv_L, List.length_cons, List.length_nil, List.set_cons_zero, List.set_cons_succ, not_false_eq_true, Nat.reduceMod, Nat.reduceDiv, Nat.reduceEqDiff, Nat.reduceLT, Nat.reduceLeDiff, Nat.reduceAdd, Nat.reduceSub, reduceIte, Nat.lt_irrefl, Nat.zero_ne_one, Nat.one_ne_zero, Nat.zero_add, List.nil_append, List.cons_append, Option.toList_some, Option.toList_none, forall_const, false_implies, true_implies, false_or, or_false, true_or, or_true, i_le, i_lt, i_eq, i_eq0, i_lt0, i_0le, i_0lt, i_le0, i_in1, i_cl, nI_add, pk_mul, pk_sub, i_div, i_rem, i_sh1, i_bit, i_or, i_and, i_andn, nt_le, nf_le, nt_lt, nf_lt, nt_eq, nf_eq, not_true_eq_false, and_self, and_false, false_and, eq_self, Bool.toNat_true, Bool.toNat_false, i_bool, i_bool1, Bool.false_eq_true, Bool.true_eq_false, reduceCtorEq, i_neg1, i_neg2, i_neg3, i_neg4, i_neg5, i_neg6, i_neg7, i_neg8, i_neg9, i_nega, i_negb, i_negc, i_max2, i_min2])
    exact ih (k + 1) _ _ (by omega) grw_le (by omega) hR
theorem l_mleast {i n : Nat} {R : Nat} {S0 : MS} (hn : n ≤ 30) (hi : i < Y 6 0) (ho : YOk 40 Y) (q : ∀ S2, FA 41 S0 S2 → P (some (aI (nI R))) S2) :
    ∀ (m k h l : Nat) (S : MS), k + m = n → h ≤ 9 → l ≤ 18 → lsR Y i m k h l = R → YrM S 41 (lsZ Y i h k) → FA 41 S0 S → wpX (d + 9) mX9_least 29 [aR 8 0, aI (nI i), aI (nI n), aI (nI l), aI (nI k), aU] [] S P := by
  have hn5 := ho.1.1
  have hb := ho.2 i hi
  have hdd := ho.1.2.1
  intro m
  induction m with
  | zero =>
    intro k h l S hk hh hl hR hm hf
    have e : k = n := by omega
    subst e
    subst hR
    refine s_X9_least_29 ?_
    simp (disch := omega) only [B_X9_least_29, wi_iload, wi_iload_n, wi_icmp_ge, wi_aload_n, wi_getfield, fldv_8_21, fds_8_21, cnt_8, wi_invokevirtual, no0, no1, nz1, nz2, nz3, nz4, nz5, nz7, nz8, Classical.not_not, bz0, bz1, wi_nil, ld_0, ld_s, isIv_I, isLv_L, isRv_R, true_and, and_true, lset_0, lset_1, lset_s, avw_I, avw_L, avw_R, clr_cons, clr_nil, kst_0, kst_1, kstL_0, kstL_1, addk_I, pA_0, pA_s, pD_0, pD_s, wid_nil, wid_cons, rcv_c, putv_I, putv_L, List.length_cons, List.length_nil, List.set_cons_zero, List.set_cons_succ, not_false_eq_true, Nat.reduceMod, Nat.reduceDiv, Nat.reduceEqDiff, Nat.reduceLT, Nat.reduceLeDiff, Nat.reduceAdd, Nat.reduceSub, reduceIte, Nat.lt_irrefl, Nat.zero_ne_one, Nat.one_ne_zero, Nat.zero_add, List.nil_append, List.cons_append, Option.toList_some, Option.toList_none, forall_const, false_implies, true_implies, false_or, or_false, true_or, or_true, i_le, i_lt, i_eq, i_eq0, i_lt0, i_0le, i_0lt, i_le0, i_in1, i_cl, nI_add, pk_mul, pk_sub, i_div, i_rem, i_sh1, i_bit, i_or, i_and, i_andn, nt_le, nf_le, nt_lt, nf_lt, nt_eq, nf_eq, not_true_eq_false, and_self, and_false, false_and, eq_self, Bool.toNat_true, Bool.toNat_false, i_bool, i_bool1, Bool.false_eq_true, Bool.true_eq_false, reduceCtorEq, i_neg1, i_neg2, i_neg3, i_neg4, i_neg5, i_neg6, i_neg7, i_neg8, i_neg9, i_nega, i_negb, i_negc, i_max2, i_min2]
    try simp (disch := omega) only [no0, no1, nz1, nz2, nz3, nz4, nz5, nz7, nz8, Classical.not_not, bz0, bz1, wi_nil, ld_0, ld_s, isIv_I, isLv_L, isRv_R, true_and, and_true, lset_0, lset_1, lset_s, avw_I, avw_L, avw_R, clr_cons, clr_nil, kst_0, kst_1, kstL_0, kstL_1, addk_I, pA_0, pA_s, pD_0, pD_s, wid_nil, wid_cons, rcv_c, putv_I, putv_L, List.length_cons, List.length_nil, List.set_cons_zero, List.set_cons_succ, not_false_eq_true, Nat.reduceMod, Nat.reduceDiv, Nat.reduceEqDiff, Nat.reduceLT, Nat.reduceLeDiff, Nat.reduceAdd, Nat.reduceSub, reduceIte, Nat.lt_irrefl, Nat.zero_ne_one, Nat.one_ne_zero, Nat.zero_add, List.nil_append, List.cons_append, Option.toList_some, Option.toList_none, forall_const, false_implies, true_implies, false_or, or_false, true_or, or_true, i_le, i_lt, i_eq, i_eq0, i_lt0, i_0le, i_0lt, i_le0, i_in1, i_cl, nI_add, pk_mul, pk_sub, i_div, i_rem, i_sh1, i_bit, i_or, i_and, i_andn, nt_le, nf_le, nt_lt, nf_lt, nt_eq, nf_eq, not_true_eq_false, and_self, and_false, false_and, eq_self, Bool.toNat_true, Bool.toNat_false, i_bool, i_bool1, Bool.false_eq_true, Bool.true_eq_false, reduceCtorEq, i_neg1, i_neg2, i_neg3, i_neg4, i_neg5, i_neg6, i_neg7, i_neg8, i_neg9, i_nega, i_negb, i_negc, i_max2, i_min2, wi_nil]
    repeat (
      first
      | refine s_X9_least_0 ?_
      | refine s_X9_least_5 ?_
      | refine s_X9_least_15 ?_
      | refine s_X9_least_18 ?_
      | refine s_X9_least_20 ?_
      | refine s_X9_least_24 ?_
      | refine s_X9_least_44 ?_
      | refine s_X9_least_57 ?_
      | refine s_X9_least_58 ?_
      | refine s_X9_least_75 ?_
      | refine s_X9_least_105 ?_
      simp (disch := omega) only [B_X9_least_0, wi_aload_n, wi_iload_n, wi_invokevirtual, cnt_8, B_X9_least_5, wi_if_eq, wi_iconst, wi_bipush, wi_invokestatic, B_X9_least_15, wi_if_ne, B_X9_least_18, wi_ireturn, B_X9_least_20, B_X9_least_24, wi_istore_n, wi_istore, B_X9_least_29, wi_iload, wi_icmp_ge, wi_getfield, fldv_8_21, fds_8_21, B_X9_least_44, wi_icmp_le, wi_goto, B_X9_least_57, B_X9_least_58, wi_iadd, B_X9_least_75, wi_iastore, wi_dup2, wi_iaload, wi_iinc, cnt_41, aTy_41, aLn_41, arr_41, B_X9_least_105, no0, no1, nz1, nz2, nz3, nz4, nz5, nz7, nz8, Classical.not_not, bz0, bz1, wi_nil, ld_0, ld_s, isIv_I, isLv_L, isRv_R, true_and, and_true, lset_0, lset_1, lset_s, avw_I, avw_L, avw_R, clr_cons, clr_nil, kst_0, kst_1, kstL_0, kstL_1, addk_I, pA_0, pA_s, pD_0, pD_s, wid_nil, wid_cons, rcv_c, putv_I, putv_L, List.length_cons, List.length_nil, List.set_cons_zero, List.set_cons_succ, not_false_eq_true, Nat.reduceMod, Nat.reduceDiv, Nat.reduceEqDiff, Nat.reduceLT, Nat.reduceLeDiff, Nat.reduceAdd, Nat.reduceSub, reduceIte, Nat.lt_irrefl, Nat.zero_ne_one, Nat.one_ne_zero, Nat.zero_add, List.nil_append, List.cons_append, Option.toList_some, Option.toList_none, forall_const, false_implies, true_implies, false_or, or_false, true_or, or_true, i_le, i_lt, i_eq, i_eq0, i_lt0, i_0le, i_0lt, i_le0, i_in1, i_cl, nI_add, pk_mul, pk_sub, i_div, i_rem, i_sh1, i_bit, i_or, i_and, i_andn, nt_le, nf_le, nt_lt, nf_lt, nt_eq, nf_eq, not_true_eq_false, and_self, and_false, false_and, eq_self, Bool.toNat_true, Bool.toNat_false, i_bool, i_bool1, Bool.false_eq_true, Bool.true_eq_false, reduceCtorEq, i_neg1, i_neg2, i_neg3, i_neg4, i_neg5, i_neg6, i_neg7, i_neg8, i_neg9, i_nega, i_negb, i_negc, i_max2, i_min2])
    exact q S hf
  | succ m ih =>
    intro k h l S hk hh hl hR hm hf
    have hp := prc_le (k := Y 0 i) (h := h) (c := Y 4 i + k) (d := Y 6 1 + k) hb.2.1 hb.2.2.2.1
    have hz := lsZ_ok (k := k) ho hh hi
    have z0 : lsZ Y i h k 6 0 = Y 6 0 := by rw [lsZ_at, if_neg (by omega), if_neg (by omega), if_neg (by omega)]
    have zk : lsZ Y i h k 0 i = Y 0 i := by rw [lsZ_at, if_neg (by omega), if_neg (by omega), if_neg (by omega)]
    have zh : lsZ Y i h k 2 i = h := by rw [lsZ_at, if_neg (by omega), if_neg (by omega), if_pos ⟨rfl, rfl⟩]
    have zc : lsZ Y i h k 4 i = Y 4 i + k := by rw [lsZ_at, if_neg (by omega), if_pos ⟨rfl, rfl⟩]
    have zd : lsZ Y i h k 6 1 = Y 6 1 + k := by rw [lsZ_at, if_pos ⟨rfl, rfl⟩]
    have hiz : i < lsZ Y i h k 6 0 := by rw [z0]; exact hi
    have ec := m_ch hm hiz
    have ed := m_day hm
    rw [zc] at ec
    rw [zd] at ed
    have hnx := fun (S2 : MS) l2 => ih (k + 1) (grw (Y 0 i) h) l2 S2 (by omega) grw_le
    have hR2 : lsR Y i m (k + 1) (grw (Y 0 i) h) (max l (prc (Y 0 i) (Y 1 i) h (Y 3 i) (Y 4 i + k) (Y 6 1 + k))) = R := hR
    have key : ∀ l2, l2 = max l (prc (Y 0 i) (Y 1 i) h (Y 3 i) (Y 4 i + k) (Y 6 1 + k)) → wpX (d + 9) mX9_least 58 [aR 8 0, aI (nI i), aI (nI n), aU, aI (nI k), aU] [aI (nI l2)] S P := by
      intro l2 hl2
      try simp (disch := omega) only [no0, no1, nz1, nz2, nz3, nz4, nz5, nz7, nz8, Classical.not_not, bz0, bz1, wi_nil, ld_0, ld_s, isIv_I, isLv_L, isRv_R, true_and, and_true, lset_0, lset_1, lset_s, avw_I, avw_L, avw_R, clr_cons, clr_nil, kst_0, kst_1, kstL_0, kstL_1, addk_I, pA_0, pA_s, pD_0, pD_s, wid_nil, wid_cons, rcv_c, putv_I, putv_L, List.length_cons, List.length_nil, List.set_cons_zero, List.set_cons_succ, not_false_eq_true, Nat.reduceMod, Nat.reduceDiv, Nat.reduceEqDiff, Nat.reduceLT, Nat.reduceLeDiff, Nat.reduceAdd, Nat.reduceSub, reduceIte, Nat.lt_irrefl, Nat.zero_ne_one, Nat.one_ne_zero, Nat.zero_add, List.nil_append, List.cons_append, Option.toList_some, Option.toList_none, forall_const, false_implies, true_implies, false_or, or_false, true_or, or_true, i_le, i_lt, i_eq, i_eq0, i_lt0, i_0le, i_0lt, i_le0, i_in1, i_cl, nI_add, pk_mul, pk_sub, i_div, i_rem, i_sh1, i_bit, i_or, i_and, i_andn, nt_le, nf_le, nt_lt, nf_lt, nt_eq, nf_eq, not_true_eq_false, and_self, and_false, false_and, eq_self, Bool.toNat_true, Bool.toNat_false, i_bool, i_bool1, Bool.false_eq_true, Bool.true_eq_false, reduceCtorEq, i_neg1, i_neg2, i_neg3, i_neg4, i_neg5, i_neg6, i_neg7, i_neg8, i_neg9, i_nega, i_negb, i_negc, i_max2, i_min2, wi_nil]
      repeat (
        first
        | refine s_X9_least_0 ?_
        | refine s_X9_least_5 ?_
        | refine s_X9_least_15 ?_
        | refine s_X9_least_18 ?_
        | refine s_X9_least_20 ?_
        | refine s_X9_least_24 ?_
        | refine s_X9_least_44 ?_
        | refine s_X9_least_57 ?_
        | refine s_X9_least_58 ?_
        | refine s_X9_least_75 ?_
        | refine s_X9_least_105 ?_
        simp (disch := omega) only [B_X9_least_0, wi_aload_n, wi_iload_n, wi_invokevirtual, cnt_8, B_X9_least_5, wi_if_eq, wi_iconst, wi_bipush, wi_invokestatic, B_X9_least_15, wi_if_ne, B_X9_least_18, wi_ireturn, B_X9_least_20, B_X9_least_24, wi_istore_n, wi_istore, B_X9_least_29, wi_iload, wi_icmp_ge, wi_getfield, fldv_8_21, fds_8_21, B_X9_least_44, wi_icmp_le, wi_goto, B_X9_least_57, B_X9_least_58, wi_iadd, B_X9_least_75, wi_iastore, wi_dup2, wi_iaload, wi_iinc, cnt_41, aTy_41, aLn_41, arr_41, B_X9_least_105, no0, no1, nz1, nz2, nz3, nz4, nz5, nz7, nz8, Classical.not_not, bz0, bz1, wi_nil, ld_0, ld_s, isIv_I, isLv_L, isRv_R, true_and, and_true, lset_0, lset_1, lset_s, avw_I, avw_L, avw_R, clr_cons, clr_nil, kst_0, kst_1, kstL_0, kstL_1, addk_I, pA_0, pA_s, pD_0, pD_s, wid_nil, wid_cons, rcv_c, putv_I, putv_L, List.length_cons, List.length_nil, List.set_cons_zero, List.set_cons_succ, not_false_eq_true, Nat.reduceMod, Nat.reduceDiv, Nat.reduceEqDiff, Nat.reduceLT, Nat.reduceLeDiff, Nat.reduceAdd, Nat.reduceSub, reduceIte, Nat.lt_irrefl, Nat.zero_ne_one, Nat.one_ne_zero, Nat.zero_add, List.nil_append, List.cons_append, Option.toList_some, Option.toList_none, forall_const, false_implies, true_implies, false_or, or_false, true_or, or_true, i_le, i_lt, i_eq, i_eq0, i_lt0, i_0le, i_0lt, i_le0, i_in1, i_cl, nI_add, pk_mul, pk_sub, i_div, i_rem, i_sh1, i_bit, i_or, i_and, i_andn, nt_le, nf_le, nt_lt, nf_lt, nt_eq, nf_eq, not_true_eq_false, and_self, and_false, false_and, eq_self, Bool.toNat_true, Bool.toNat_false, i_bool, i_bool1, Bool.false_eq_true, Bool.true_eq_false, reduceCtorEq, i_neg1, i_neg2, i_neg3, i_neg4, i_neg5, i_neg6, i_neg7, i_neg8, i_neg9, i_nega, i_negb, i_negc, i_max2, i_min2])
      refine c_mgrown (Or.inr rfl) hm (by omega) (by omega) (by omega) hiz ?_
      rw [zk, zh]
      try simp (disch := omega) only [no0, no1, nz1, nz2, nz3, nz4, nz5, nz7, nz8, Classical.not_not, bz0, bz1, wi_nil, ld_0, ld_s, isIv_I, isLv_L, isRv_R, true_and, and_true, lset_0, lset_1, lset_s, avw_I, avw_L, avw_R, clr_cons, clr_nil, kst_0, kst_1, kstL_0, kstL_1, addk_I, pA_0, pA_s, pD_0, pD_s, wid_nil, wid_cons, rcv_c, putv_I, putv_L, List.length_cons, List.length_nil, List.set_cons_zero, List.set_cons_succ, not_false_eq_true, Nat.reduceMod, Nat.reduceDiv, Nat.reduceEqDiff, Nat.reduceLT, Nat.reduceLeDiff, Nat.reduceAdd, Nat.reduceSub, reduceIte, Nat.lt_irrefl, Nat.zero_ne_one, Nat.one_ne_zero, Nat.zero_add, List.nil_append, List.cons_append, Option.toList_some, Option.toList_none, forall_const, false_implies, true_implies, false_or, or_false, true_or, or_true, i_le, i_lt, i_eq, i_eq0, i_lt0, i_0le, i_0lt, i_le0, i_in1, i_cl, nI_add, pk_mul, pk_sub, i_div, i_rem, i_sh1, i_bit, i_or, i_and, i_andn, nt_le, nf_le, nt_lt, nf_lt, nt_eq, nf_eq, not_true_eq_false, and_self, and_false, false_and, eq_self, Bool.toNat_true, Bool.toNat_false, i_bool, i_bool1, Bool.false_eq_true, Bool.true_eq_false, reduceCtorEq, i_neg1, i_neg2, i_neg3, i_neg4, i_neg5, i_neg6, i_neg7, i_neg8, i_neg9, i_nega, i_negb, i_negc, i_max2, i_min2, ec, ed, gI_sI, gI_sL, gI_sA, gL_sI, gL_sL, gL_sA, gA_sI, gA_sL, gA_sA, sA_sA, pk_us, pk_un, wi_nil]
      repeat (
        first
        | refine s_X9_least_0 ?_
        | refine s_X9_least_5 ?_
        | refine s_X9_least_15 ?_
        | refine s_X9_least_18 ?_
        | refine s_X9_least_20 ?_
        | refine s_X9_least_24 ?_
        | refine s_X9_least_44 ?_
        | refine s_X9_least_57 ?_
        | refine s_X9_least_58 ?_
        | refine s_X9_least_75 ?_
        | refine s_X9_least_105 ?_
        simp (disch := omega) only [B_X9_least_0, wi_aload_n, wi_iload_n, wi_invokevirtual, cnt_8, B_X9_least_5, wi_if_eq, wi_iconst, wi_bipush, wi_invokestatic, B_X9_least_15, wi_if_ne, B_X9_least_18, wi_ireturn, B_X9_least_20, B_X9_least_24, wi_istore_n, wi_istore, B_X9_least_29, wi_iload, wi_icmp_ge, wi_getfield, fldv_8_21, fds_8_21, B_X9_least_44, wi_icmp_le, wi_goto, B_X9_least_57, B_X9_least_58, wi_iadd, B_X9_least_75, wi_iastore, wi_dup2, wi_iaload, wi_iinc, cnt_41, aTy_41, aLn_41, arr_41, B_X9_least_105, no0, no1, nz1, nz2, nz3, nz4, nz5, nz7, nz8, Classical.not_not, bz0, bz1, wi_nil, ld_0, ld_s, isIv_I, isLv_L, isRv_R, true_and, and_true, lset_0, lset_1, lset_s, avw_I, avw_L, avw_R, clr_cons, clr_nil, kst_0, kst_1, kstL_0, kstL_1, addk_I, pA_0, pA_s, pD_0, pD_s, wid_nil, wid_cons, rcv_c, putv_I, putv_L, List.length_cons, List.length_nil, List.set_cons_zero, List.set_cons_succ, not_false_eq_true, Nat.reduceMod, Nat.reduceDiv, Nat.reduceEqDiff, Nat.reduceLT, Nat.reduceLeDiff, Nat.reduceAdd, Nat.reduceSub, reduceIte, Nat.lt_irrefl, Nat.zero_ne_one, Nat.one_ne_zero, Nat.zero_add, List.nil_append, List.cons_append, Option.toList_some, Option.toList_none, forall_const, false_implies, true_implies, false_or, or_false, true_or, or_true, i_le, i_lt, i_eq, i_eq0, i_lt0, i_0le, i_0lt, i_le0, i_in1, i_cl, nI_add, pk_mul, pk_sub, i_div, i_rem, i_sh1, i_bit, i_or, i_and, i_andn, nt_le, nf_le, nt_lt, nf_lt, nt_eq, nf_eq, not_true_eq_false, and_self, and_false, false_and, eq_self, Bool.toNat_true, Bool.toNat_false, i_bool, i_bool1, Bool.false_eq_true, Bool.true_eq_false, reduceCtorEq, i_neg1, i_neg2, i_neg3, i_neg4, i_neg5, i_neg6, i_neg7, i_neg8, i_neg9, i_nega, i_negb, i_negc, i_max2, i_min2, ec, ed, gI_sI, gI_sL, gI_sA, gL_sI, gL_sL, gL_sA, gA_sI, gA_sL, gA_sA, sA_sA, pk_us, pk_un])
      refine hnx _ l2 (by omega) (by rw [hl2]; exact hR) (yrm_ls hm (by omega) hn5 rfl) (hf.trans fa_sA)
    refine s_X9_least_29 ?_
    simp (disch := omega) only [B_X9_least_29, wi_iload, wi_iload_n, wi_icmp_ge, wi_aload_n, wi_getfield, fldv_8_21, fds_8_21, cnt_8, wi_invokevirtual, no0, no1, nz1, nz2, nz3, nz4, nz5, nz7, nz8, Classical.not_not, bz0, bz1, wi_nil, ld_0, ld_s, isIv_I, isLv_L, isRv_R, true_and, and_true, lset_0, lset_1, lset_s, avw_I, avw_L, avw_R, clr_cons, clr_nil, kst_0, kst_1, kstL_0, kstL_1, addk_I, pA_0, pA_s, pD_0, pD_s, wid_nil, wid_cons, rcv_c, putv_I, putv_L, List.length_cons, List.length_nil, List.set_cons_zero, List.set_cons_succ, not_false_eq_true, Nat.reduceMod, Nat.reduceDiv, Nat.reduceEqDiff, Nat.reduceLT, Nat.reduceLeDiff, Nat.reduceAdd, Nat.reduceSub, reduceIte, Nat.lt_irrefl, Nat.zero_ne_one, Nat.one_ne_zero, Nat.zero_add, List.nil_append, List.cons_append, Option.toList_some, Option.toList_none, forall_const, false_implies, true_implies, false_or, or_false, true_or, or_true, i_le, i_lt, i_eq, i_eq0, i_lt0, i_0le, i_0lt, i_le0, i_in1, i_cl, nI_add, pk_mul, pk_sub, i_div, i_rem, i_sh1, i_bit, i_or, i_and, i_andn, nt_le, nf_le, nt_lt, nf_lt, nt_eq, nf_eq, not_true_eq_false, and_self, and_false, false_and, eq_self, Bool.toNat_true, Bool.toNat_false, i_bool, i_bool1, Bool.false_eq_true, Bool.true_eq_false, reduceCtorEq, i_neg1, i_neg2, i_neg3, i_neg4, i_neg5, i_neg6, i_neg7, i_neg8, i_neg9, i_nega, i_negb, i_negc, i_max2, i_min2]
    refine c_costOn (Or.inr rfl) hm hz (by omega) hiz ?_
    rw [yc_ls]
    rcases Nat.lt_or_ge l (prc (Y 0 i) (Y 1 i) h (Y 3 i) (Y 4 i + k) (Y 6 1 + k)) with a | a
    · try simp (disch := omega) only [no0, no1, nz1, nz2, nz3, nz4, nz5, nz7, nz8, Classical.not_not, bz0, bz1, wi_nil, ld_0, ld_s, isIv_I, isLv_L, isRv_R, true_and, and_true, lset_0, lset_1, lset_s, avw_I, avw_L, avw_R, clr_cons, clr_nil, kst_0, kst_1, kstL_0, kstL_1, addk_I, pA_0, pA_s, pD_0, pD_s, wid_nil, wid_cons, rcv_c, putv_I, putv_L, List.length_cons, List.length_nil, List.set_cons_zero, List.set_cons_succ, not_false_eq_true, Nat.reduceMod, Nat.reduceDiv, Nat.reduceEqDiff, Nat.reduceLT, Nat.reduceLeDiff, Nat.reduceAdd, Nat.reduceSub, reduceIte, Nat.lt_irrefl, Nat.zero_ne_one, Nat.one_ne_zero, Nat.zero_add, List.nil_append, List.cons_append, Option.toList_some, Option.toList_none, forall_const, false_implies, true_implies, false_or, or_false, true_or, or_true, i_le, i_lt, i_eq, i_eq0, i_lt0, i_0le, i_0lt, i_le0, i_in1, i_cl, nI_add, pk_mul, pk_sub, i_div, i_rem, i_sh1, i_bit, i_or, i_and, i_andn, nt_le, nf_le, nt_lt, nf_lt, nt_eq, nf_eq, not_true_eq_false, and_self, and_false, false_and, eq_self, Bool.toNat_true, Bool.toNat_false, i_bool, i_bool1, Bool.false_eq_true, Bool.true_eq_false, reduceCtorEq, i_neg1, i_neg2, i_neg3, i_neg4, i_neg5, i_neg6, i_neg7, i_neg8, i_neg9, i_nega, i_negb, i_negc, i_max2, i_min2, wi_nil]
      repeat (
        first
        | refine s_X9_least_0 ?_
        | refine s_X9_least_5 ?_
        | refine s_X9_least_15 ?_
        | refine s_X9_least_18 ?_
        | refine s_X9_least_20 ?_
        | refine s_X9_least_24 ?_
        | refine s_X9_least_44 ?_
        | refine s_X9_least_57 ?_
        | refine s_X9_least_75 ?_
        | refine s_X9_least_105 ?_
        simp (disch := omega) only [B_X9_least_0, wi_aload_n, wi_iload_n, wi_invokevirtual, cnt_8, B_X9_least_5, wi_if_eq, wi_iconst, wi_bipush, wi_invokestatic, B_X9_least_15, wi_if_ne, B_X9_least_18, wi_ireturn, B_X9_least_20, B_X9_least_24, wi_istore_n, wi_istore, B_X9_least_29, wi_iload, wi_icmp_ge, wi_getfield, fldv_8_21, fds_8_21, B_X9_least_44, wi_icmp_le, wi_goto, B_X9_least_57, B_X9_least_58, wi_iadd, B_X9_least_75, wi_iastore, wi_dup2, wi_iaload, wi_iinc, cnt_41, aTy_41, aLn_41, arr_41, B_X9_least_105, no0, no1, nz1, nz2, nz3, nz4, nz5, nz7, nz8, Classical.not_not, bz0, bz1, wi_nil, ld_0, ld_s, isIv_I, isLv_L, isRv_R, true_and, and_true, lset_0, lset_1, lset_s, avw_I, avw_L, avw_R, clr_cons, clr_nil, kst_0, kst_1, kstL_0, kstL_1, addk_I, pA_0, pA_s, pD_0, pD_s, wid_nil, wid_cons, rcv_c, putv_I, putv_L, List.length_cons, List.length_nil, List.set_cons_zero, List.set_cons_succ, not_false_eq_true, Nat.reduceMod, Nat.reduceDiv, Nat.reduceEqDiff, Nat.reduceLT, Nat.reduceLeDiff, Nat.reduceAdd, Nat.reduceSub, reduceIte, Nat.lt_irrefl, Nat.zero_ne_one, Nat.one_ne_zero, Nat.zero_add, List.nil_append, List.cons_append, Option.toList_some, Option.toList_none, forall_const, false_implies, true_implies, false_or, or_false, true_or, or_true, i_le, i_lt, i_eq, i_eq0, i_lt0, i_0le, i_0lt, i_le0, i_in1, i_cl, nI_add, pk_mul, pk_sub, i_div, i_rem, i_sh1, i_bit, i_or, i_and, i_andn, nt_le, nf_le, nt_lt, nf_lt, nt_eq, nf_eq, not_true_eq_false, and_self, and_false, false_and, eq_self, Bool.toNat_true, Bool.toNat_false, i_bool, i_bool1, Bool.false_eq_true, Bool.true_eq_false, reduceCtorEq, i_neg1, i_neg2, i_neg3, i_neg4, i_neg5, i_neg6, i_neg7, i_neg8, i_neg9, i_nega, i_negb, i_negc, i_max2, i_min2])
      exact key _ (Nat.max_eq_right (by omega)).symm
    · try simp (disch := omega) only [no0, no1, nz1, nz2, nz3, nz4, nz5, nz7, nz8, Classical.not_not, bz0, bz1, wi_nil, ld_0, ld_s, isIv_I, isLv_L, isRv_R, true_and, and_true, lset_0, lset_1, lset_s, avw_I, avw_L, avw_R, clr_cons, clr_nil, kst_0, kst_1, kstL_0, kstL_1, addk_I, pA_0, pA_s, pD_0, pD_s, wid_nil, wid_cons, rcv_c, putv_I, putv_L, List.length_cons, List.length_nil, List.set_cons_zero, List.set_cons_succ, not_false_eq_true, Nat.reduceMod, Nat.reduceDiv, Nat.reduceEqDiff, Nat.reduceLT, Nat.reduceLeDiff, Nat.reduceAdd, Nat.reduceSub, reduceIte, Nat.lt_irrefl, Nat.zero_ne_one, Nat.one_ne_zero, Nat.zero_add, List.nil_append, List.cons_append, Option.toList_some, Option.toList_none, forall_const, false_implies, true_implies, false_or, or_false, true_or, or_true, i_le, i_lt, i_eq, i_eq0, i_lt0, i_0le, i_0lt, i_le0, i_in1, i_cl, nI_add, pk_mul, pk_sub, i_div, i_rem, i_sh1, i_bit, i_or, i_and, i_andn, nt_le, nf_le, nt_lt, nf_lt, nt_eq, nf_eq, not_true_eq_false, and_self, and_false, false_and, eq_self, Bool.toNat_true, Bool.toNat_false, i_bool, i_bool1, Bool.false_eq_true, Bool.true_eq_false, reduceCtorEq, i_neg1, i_neg2, i_neg3, i_neg4, i_neg5, i_neg6, i_neg7, i_neg8, i_neg9, i_nega, i_negb, i_negc, i_max2, i_min2, wi_nil]
      repeat (
        first
        | refine s_X9_least_0 ?_
        | refine s_X9_least_5 ?_
        | refine s_X9_least_15 ?_
        | refine s_X9_least_18 ?_
        | refine s_X9_least_20 ?_
        | refine s_X9_least_24 ?_
        | refine s_X9_least_44 ?_
        | refine s_X9_least_57 ?_
        | refine s_X9_least_75 ?_
        | refine s_X9_least_105 ?_
        simp (disch := omega) only [B_X9_least_0, wi_aload_n, wi_iload_n, wi_invokevirtual, cnt_8, B_X9_least_5, wi_if_eq, wi_iconst, wi_bipush, wi_invokestatic, B_X9_least_15, wi_if_ne, B_X9_least_18, wi_ireturn, B_X9_least_20, B_X9_least_24, wi_istore_n, wi_istore, B_X9_least_29, wi_iload, wi_icmp_ge, wi_getfield, fldv_8_21, fds_8_21, B_X9_least_44, wi_icmp_le, wi_goto, B_X9_least_57, B_X9_least_58, wi_iadd, B_X9_least_75, wi_iastore, wi_dup2, wi_iaload, wi_iinc, cnt_41, aTy_41, aLn_41, arr_41, B_X9_least_105, no0, no1, nz1, nz2, nz3, nz4, nz5, nz7, nz8, Classical.not_not, bz0, bz1, wi_nil, ld_0, ld_s, isIv_I, isLv_L, isRv_R, true_and, and_true, lset_0, lset_1, lset_s, avw_I, avw_L, avw_R, clr_cons, clr_nil, kst_0, kst_1, kstL_0, kstL_1, addk_I, pA_0, pA_s, pD_0, pD_s, wid_nil, wid_cons, rcv_c, putv_I, putv_L, List.length_cons, List.length_nil, List.set_cons_zero, List.set_cons_succ, not_false_eq_true, Nat.reduceMod, Nat.reduceDiv, Nat.reduceEqDiff, Nat.reduceLT, Nat.reduceLeDiff, Nat.reduceAdd, Nat.reduceSub, reduceIte, Nat.lt_irrefl, Nat.zero_ne_one, Nat.one_ne_zero, Nat.zero_add, List.nil_append, List.cons_append, Option.toList_some, Option.toList_none, forall_const, false_implies, true_implies, false_or, or_false, true_or, or_true, i_le, i_lt, i_eq, i_eq0, i_lt0, i_0le, i_0lt, i_le0, i_in1, i_cl, nI_add, pk_mul, pk_sub, i_div, i_rem, i_sh1, i_bit, i_or, i_and, i_andn, nt_le, nf_le, nt_lt, nf_lt, nt_eq, nf_eq, not_true_eq_false, and_self, and_false, false_and, eq_self, Bool.toNat_true, Bool.toNat_false, i_bool, i_bool1, Bool.false_eq_true, Bool.true_eq_false, reduceCtorEq, i_neg1, i_neg2, i_neg3, i_neg4, i_neg5, i_neg6, i_neg7, i_neg8, i_neg9, i_nega, i_negb, i_negc, i_max2, i_min2])
      exact key _ (Nat.max_eq_left a).symm
theorem o_least {i n : Int32} (h : Rr S) : wpM (d + 10) mX8_least [aR 7 0, aI i, aI n] S (PX d mX9_least [aI i, aI n]) := by
  obtain ⟨Y, hy, hok, hm⟩ := r_year h
  have hn5 := hok.1.1
  cases hi : inB i (Y 6 0)
  · refine x_entry (ls2 := [aR 7 0, aI i, aI n, aU, aU, aU, aU]) (Nat.le_of_ble_eq_true rfl) pl_8 rfl (Nat.le_of_ble_eq_true rfl) ?_
    try simp (disch := omega) only [no0, no1, nz1, nz2, nz3, nz4, nz5, nz7, nz8, Classical.not_not, bz0, bz1, wi_nil, ld_0, ld_s, isIv_I, isLv_L, isRv_R, true_and, and_true, lset_0, lset_1, lset_s, avw_I, avw_L, avw_R, clr_cons, clr_nil, kst_0, kst_1, kstL_0, kstL_1, addk_I, pA_0, pA_s, pD_0, pD_s, wid_nil, wid_cons, rcv_c, putv_I, putv_L, List.length_cons, List.length_nil, List.set_cons_zero, List.set_cons_succ, not_false_eq_true, Nat.reduceMod, Nat.reduceDiv, Nat.reduceEqDiff, Nat.reduceLT, Nat.reduceLeDiff, Nat.reduceAdd, Nat.reduceSub, reduceIte, Nat.lt_irrefl, Nat.zero_ne_one, Nat.one_ne_zero, Nat.zero_add, List.nil_append, List.cons_append, Option.toList_some, Option.toList_none, forall_const, false_implies, true_implies, false_or, or_false, true_or, or_true, i_le, i_lt, i_eq, i_eq0, i_lt0, i_0le, i_0lt, i_le0, i_in1, i_cl, nI_add, pk_mul, pk_sub, i_div, i_rem, i_sh1, i_bit, i_or, i_and, i_andn, nt_le, nf_le, nt_lt, nf_lt, nt_eq, nf_eq, not_true_eq_false, and_self, and_false, false_and, eq_self, Bool.toNat_true, Bool.toNat_false, i_bool, i_bool1, Bool.false_eq_true, Bool.true_eq_false, reduceCtorEq, i_neg1, i_neg2, i_neg3, i_neg4, i_neg5, i_neg6, i_neg7, i_neg8, i_neg9, i_nega, i_negb, i_negc, i_max2, i_min2, wi_nil]
    repeat (
      first
      | refine s_X8_least_0 ?_
      | refine s_X8_least_5 ?_
      | refine s_X8_least_18 ?_
      | refine s_X8_least_20 ?_
      | refine s_X8_least_95 ?_
      | refine s_X8_least_119 ?_
      | refine s_X8_least_126 ?_
      simp (disch := omega) only [B_X8_least_0, wi_aload_n, wi_iload_n, wi_invokevirtual, cnt_7, B_X8_least_5, wi_if_eq, wi_if_lt, wi_bipush, wi_icmp_le, B_X8_least_18, wi_iconst, wi_ireturn, B_X8_least_20, wi_getfield, fldv_7_3, fds_7_3, fldv_6_2, fds_6_2, cnt_6, wi_iaload, wi_istore_n, wi_istore, cnt_20, aTy_20, aLn_20, arr_20, cnt_21, aTy_21, aLn_21, arr_21, cnt_22, aTy_22, aLn_22, arr_22, cnt_23, aTy_23, aLn_23, arr_23, cnt_24, aTy_24, aLn_24, arr_24, B_X8_least_36, wi_iload, wi_icmp_ge, fldv_6_0, fds_6_0, fldv_6_1, fds_6_1, fldv_6_3, fds_6_3, fldv_6_4, fds_6_4, wi_iadd, fldv_6_8, fds_6_8, wi_invokestatic, B_X8_least_95, wi_max, B_X8_least_119, wi_iinc, wi_goto, B_X8_least_126, no0, no1, nz1, nz2, nz3, nz4, nz5, nz7, nz8, Classical.not_not, bz0, bz1, wi_nil, ld_0, ld_s, isIv_I, isLv_L, isRv_R, true_and, and_true, lset_0, lset_1, lset_s, avw_I, avw_L, avw_R, clr_cons, clr_nil, kst_0, kst_1, kstL_0, kstL_1, addk_I, pA_0, pA_s, pD_0, pD_s, wid_nil, wid_cons, rcv_c, putv_I, putv_L, List.length_cons, List.length_nil, List.set_cons_zero, List.set_cons_succ, not_false_eq_true, Nat.reduceMod, Nat.reduceDiv, Nat.reduceEqDiff, Nat.reduceLT, Nat.reduceLeDiff, Nat.reduceAdd, Nat.reduceSub, reduceIte, Nat.lt_irrefl, Nat.zero_ne_one, Nat.one_ne_zero, Nat.zero_add, List.nil_append, List.cons_append, Option.toList_some, Option.toList_none, forall_const, false_implies, true_implies, false_or, or_false, true_or, or_true, i_le, i_lt, i_eq, i_eq0, i_lt0, i_0le, i_0lt, i_le0, i_in1, i_cl, nI_add, pk_mul, pk_sub, i_div, i_rem, i_sh1, i_bit, i_or, i_and, i_andn, nt_le, nf_le, nt_lt, nf_lt, nt_eq, nf_eq, not_true_eq_false, and_self, and_false, false_and, eq_self, Bool.toNat_true, Bool.toNat_false, i_bool, i_bool1, Bool.false_eq_true, Bool.true_eq_false, reduceCtorEq, i_neg1, i_neg2, i_neg3, i_neg4, i_neg5, i_neg6, i_neg7, i_neg8, i_neg9, i_nega, i_negb, i_negc, i_max2, i_min2])
    refine c_isDeed hy hn5 ?_
    try simp (disch := omega) only [no0, no1, nz1, nz2, nz3, nz4, nz5, nz7, nz8, Classical.not_not, bz0, bz1, wi_nil, ld_0, ld_s, isIv_I, isLv_L, isRv_R, true_and, and_true, lset_0, lset_1, lset_s, avw_I, avw_L, avw_R, clr_cons, clr_nil, kst_0, kst_1, kstL_0, kstL_1, addk_I, pA_0, pA_s, pD_0, pD_s, wid_nil, wid_cons, rcv_c, putv_I, putv_L, List.length_cons, List.length_nil, List.set_cons_zero, List.set_cons_succ, not_false_eq_true, Nat.reduceMod, Nat.reduceDiv, Nat.reduceEqDiff, Nat.reduceLT, Nat.reduceLeDiff, Nat.reduceAdd, Nat.reduceSub, reduceIte, Nat.lt_irrefl, Nat.zero_ne_one, Nat.one_ne_zero, Nat.zero_add, List.nil_append, List.cons_append, Option.toList_some, Option.toList_none, forall_const, false_implies, true_implies, false_or, or_false, true_or, or_true, i_le, i_lt, i_eq, i_eq0, i_lt0, i_0le, i_0lt, i_le0, i_in1, i_cl, nI_add, pk_mul, pk_sub, i_div, i_rem, i_sh1, i_bit, i_or, i_and, i_andn, nt_le, nf_le, nt_lt, nf_lt, nt_eq, nf_eq, not_true_eq_false, and_self, and_false, false_and, eq_self, Bool.toNat_true, Bool.toNat_false, i_bool, i_bool1, Bool.false_eq_true, Bool.true_eq_false, reduceCtorEq, i_neg1, i_neg2, i_neg3, i_neg4, i_neg5, i_neg6, i_neg7, i_neg8, i_neg9, i_nega, i_negb, i_negc, i_max2, i_min2, hi, wi_nil]
    repeat (
      first
      | refine s_X8_least_0 ?_
      | refine s_X8_least_5 ?_
      | refine s_X8_least_18 ?_
      | refine s_X8_least_20 ?_
      | refine s_X8_least_95 ?_
      | refine s_X8_least_119 ?_
      | refine s_X8_least_126 ?_
      simp (disch := omega) only [B_X8_least_0, wi_aload_n, wi_iload_n, wi_invokevirtual, cnt_7, B_X8_least_5, wi_if_eq, wi_if_lt, wi_bipush, wi_icmp_le, B_X8_least_18, wi_iconst, wi_ireturn, B_X8_least_20, wi_getfield, fldv_7_3, fds_7_3, fldv_6_2, fds_6_2, cnt_6, wi_iaload, wi_istore_n, wi_istore, cnt_20, aTy_20, aLn_20, arr_20, cnt_21, aTy_21, aLn_21, arr_21, cnt_22, aTy_22, aLn_22, arr_22, cnt_23, aTy_23, aLn_23, arr_23, cnt_24, aTy_24, aLn_24, arr_24, B_X8_least_36, wi_iload, wi_icmp_ge, fldv_6_0, fds_6_0, fldv_6_1, fds_6_1, fldv_6_3, fds_6_3, fldv_6_4, fds_6_4, wi_iadd, fldv_6_8, fds_6_8, wi_invokestatic, B_X8_least_95, wi_max, B_X8_least_119, wi_iinc, wi_goto, B_X8_least_126, no0, no1, nz1, nz2, nz3, nz4, nz5, nz7, nz8, Classical.not_not, bz0, bz1, wi_nil, ld_0, ld_s, isIv_I, isLv_L, isRv_R, true_and, and_true, lset_0, lset_1, lset_s, avw_I, avw_L, avw_R, clr_cons, clr_nil, kst_0, kst_1, kstL_0, kstL_1, addk_I, pA_0, pA_s, pD_0, pD_s, wid_nil, wid_cons, rcv_c, putv_I, putv_L, List.length_cons, List.length_nil, List.set_cons_zero, List.set_cons_succ, not_false_eq_true, Nat.reduceMod, Nat.reduceDiv, Nat.reduceEqDiff, Nat.reduceLT, Nat.reduceLeDiff, Nat.reduceAdd, Nat.reduceSub, reduceIte, Nat.lt_irrefl, Nat.zero_ne_one, Nat.one_ne_zero, Nat.zero_add, List.nil_append, List.cons_append, Option.toList_some, Option.toList_none, forall_const, false_implies, true_implies, false_or, or_false, true_or, or_true, i_le, i_lt, i_eq, i_eq0, i_lt0, i_0le, i_0lt, i_le0, i_in1, i_cl, nI_add, pk_mul, pk_sub, i_div, i_rem, i_sh1, i_bit, i_or, i_and, i_andn, nt_le, nf_le, nt_lt, nf_lt, nt_eq, nf_eq, not_true_eq_false, and_self, and_false, false_and, eq_self, Bool.toNat_true, Bool.toNat_false, i_bool, i_bool1, Bool.false_eq_true, Bool.true_eq_false, reduceCtorEq, i_neg1, i_neg2, i_neg3, i_neg4, i_neg5, i_neg6, i_neg7, i_neg8, i_neg9, i_nega, i_negb, i_negc, i_max2, i_min2, hi])
    refine px ?_
    refine x_entry (ls2 := [aR 8 0, aI i, aI n, aU, aU, aU]) (Nat.le_of_ble_eq_true rfl) pl_9 rfl (Nat.le_of_ble_eq_true rfl) ?_
    try simp (disch := omega) only [no0, no1, nz1, nz2, nz3, nz4, nz5, nz7, nz8, Classical.not_not, bz0, bz1, wi_nil, ld_0, ld_s, isIv_I, isLv_L, isRv_R, true_and, and_true, lset_0, lset_1, lset_s, avw_I, avw_L, avw_R, clr_cons, clr_nil, kst_0, kst_1, kstL_0, kstL_1, addk_I, pA_0, pA_s, pD_0, pD_s, wid_nil, wid_cons, rcv_c, putv_I, putv_L, List.length_cons, List.length_nil, List.set_cons_zero, List.set_cons_succ, not_false_eq_true, Nat.reduceMod, Nat.reduceDiv, Nat.reduceEqDiff, Nat.reduceLT, Nat.reduceLeDiff, Nat.reduceAdd, Nat.reduceSub, reduceIte, Nat.lt_irrefl, Nat.zero_ne_one, Nat.one_ne_zero, Nat.zero_add, List.nil_append, List.cons_append, Option.toList_some, Option.toList_none, forall_const, false_implies, true_implies, false_or, or_false, true_or, or_true, i_le, i_lt, i_eq, i_eq0, i_lt0, i_0le, i_0lt, i_le0, i_in1, i_cl, nI_add, pk_mul, pk_sub, i_div, i_rem, i_sh1, i_bit, i_or, i_and, i_andn, nt_le, nf_le, nt_lt, nf_lt, nt_eq, nf_eq, not_true_eq_false, and_self, and_false, false_and, eq_self, Bool.toNat_true, Bool.toNat_false, i_bool, i_bool1, Bool.false_eq_true, Bool.true_eq_false, reduceCtorEq, i_neg1, i_neg2, i_neg3, i_neg4, i_neg5, i_neg6, i_neg7, i_neg8, i_neg9, i_nega, i_negb, i_negc, i_max2, i_min2, wi_nil]
    repeat (
      first
      | refine s_X9_least_0 ?_
      | refine s_X9_least_5 ?_
      | refine s_X9_least_15 ?_
      | refine s_X9_least_18 ?_
      | refine s_X9_least_20 ?_
      | refine s_X9_least_24 ?_
      | refine s_X9_least_44 ?_
      | refine s_X9_least_57 ?_
      | refine s_X9_least_58 ?_
      | refine s_X9_least_75 ?_
      | refine s_X9_least_105 ?_
      simp (disch := omega) only [B_X9_least_0, wi_aload_n, wi_iload_n, wi_invokevirtual, cnt_8, B_X9_least_5, wi_if_eq, wi_iconst, wi_bipush, wi_invokestatic, B_X9_least_15, wi_if_ne, B_X9_least_18, wi_ireturn, B_X9_least_20, B_X9_least_24, wi_istore_n, wi_istore, B_X9_least_29, wi_iload, wi_icmp_ge, wi_getfield, fldv_8_21, fds_8_21, B_X9_least_44, wi_icmp_le, wi_goto, B_X9_least_57, B_X9_least_58, wi_iadd, B_X9_least_75, wi_iastore, wi_dup2, wi_iaload, wi_iinc, cnt_41, aTy_41, aLn_41, arr_41, B_X9_least_105, no0, no1, nz1, nz2, nz3, nz4, nz5, nz7, nz8, Classical.not_not, bz0, bz1, wi_nil, ld_0, ld_s, isIv_I, isLv_L, isRv_R, true_and, and_true, lset_0, lset_1, lset_s, avw_I, avw_L, avw_R, clr_cons, clr_nil, kst_0, kst_1, kstL_0, kstL_1, addk_I, pA_0, pA_s, pD_0, pD_s, wid_nil, wid_cons, rcv_c, putv_I, putv_L, List.length_cons, List.length_nil, List.set_cons_zero, List.set_cons_succ, not_false_eq_true, Nat.reduceMod, Nat.reduceDiv, Nat.reduceEqDiff, Nat.reduceLT, Nat.reduceLeDiff, Nat.reduceAdd, Nat.reduceSub, reduceIte, Nat.lt_irrefl, Nat.zero_ne_one, Nat.one_ne_zero, Nat.zero_add, List.nil_append, List.cons_append, Option.toList_some, Option.toList_none, forall_const, false_implies, true_implies, false_or, or_false, true_or, or_true, i_le, i_lt, i_eq, i_eq0, i_lt0, i_0le, i_0lt, i_le0, i_in1, i_cl, nI_add, pk_mul, pk_sub, i_div, i_rem, i_sh1, i_bit, i_or, i_and, i_andn, nt_le, nf_le, nt_lt, nf_lt, nt_eq, nf_eq, not_true_eq_false, and_self, and_false, false_and, eq_self, Bool.toNat_true, Bool.toNat_false, i_bool, i_bool1, Bool.false_eq_true, Bool.true_eq_false, reduceCtorEq, i_neg1, i_neg2, i_neg3, i_neg4, i_neg5, i_neg6, i_neg7, i_neg8, i_neg9, i_nega, i_negb, i_negc, i_max2, i_min2])
    refine c_mDeed hm hn5 ?_
    try simp (disch := omega) only [no0, no1, nz1, nz2, nz3, nz4, nz5, nz7, nz8, Classical.not_not, bz0, bz1, wi_nil, ld_0, ld_s, isIv_I, isLv_L, isRv_R, true_and, and_true, lset_0, lset_1, lset_s, avw_I, avw_L, avw_R, clr_cons, clr_nil, kst_0, kst_1, kstL_0, kstL_1, addk_I, pA_0, pA_s, pD_0, pD_s, wid_nil, wid_cons, rcv_c, putv_I, putv_L, List.length_cons, List.length_nil, List.set_cons_zero, List.set_cons_succ, not_false_eq_true, Nat.reduceMod, Nat.reduceDiv, Nat.reduceEqDiff, Nat.reduceLT, Nat.reduceLeDiff, Nat.reduceAdd, Nat.reduceSub, reduceIte, Nat.lt_irrefl, Nat.zero_ne_one, Nat.one_ne_zero, Nat.zero_add, List.nil_append, List.cons_append, Option.toList_some, Option.toList_none, forall_const, false_implies, true_implies, false_or, or_false, true_or, or_true, i_le, i_lt, i_eq, i_eq0, i_lt0, i_0le, i_0lt, i_le0, i_in1, i_cl, nI_add, pk_mul, pk_sub, i_div, i_rem, i_sh1, i_bit, i_or, i_and, i_andn, nt_le, nf_le, nt_lt, nf_lt, nt_eq, nf_eq, not_true_eq_false, and_self, and_false, false_and, eq_self, Bool.toNat_true, Bool.toNat_false, i_bool, i_bool1, Bool.false_eq_true, Bool.true_eq_false, reduceCtorEq, i_neg1, i_neg2, i_neg3, i_neg4, i_neg5, i_neg6, i_neg7, i_neg8, i_neg9, i_nega, i_negb, i_negc, i_max2, i_min2, hi, wi_nil]
    repeat (
      first
      | refine s_X9_least_0 ?_
      | refine s_X9_least_5 ?_
      | refine s_X9_least_15 ?_
      | refine s_X9_least_18 ?_
      | refine s_X9_least_20 ?_
      | refine s_X9_least_24 ?_
      | refine s_X9_least_44 ?_
      | refine s_X9_least_57 ?_
      | refine s_X9_least_58 ?_
      | refine s_X9_least_75 ?_
      | refine s_X9_least_105 ?_
      simp (disch := omega) only [B_X9_least_0, wi_aload_n, wi_iload_n, wi_invokevirtual, cnt_8, B_X9_least_5, wi_if_eq, wi_iconst, wi_bipush, wi_invokestatic, B_X9_least_15, wi_if_ne, B_X9_least_18, wi_ireturn, B_X9_least_20, B_X9_least_24, wi_istore_n, wi_istore, B_X9_least_29, wi_iload, wi_icmp_ge, wi_getfield, fldv_8_21, fds_8_21, B_X9_least_44, wi_icmp_le, wi_goto, B_X9_least_57, B_X9_least_58, wi_iadd, B_X9_least_75, wi_iastore, wi_dup2, wi_iaload, wi_iinc, cnt_41, aTy_41, aLn_41, arr_41, B_X9_least_105, no0, no1, nz1, nz2, nz3, nz4, nz5, nz7, nz8, Classical.not_not, bz0, bz1, wi_nil, ld_0, ld_s, isIv_I, isLv_L, isRv_R, true_and, and_true, lset_0, lset_1, lset_s, avw_I, avw_L, avw_R, clr_cons, clr_nil, kst_0, kst_1, kstL_0, kstL_1, addk_I, pA_0, pA_s, pD_0, pD_s, wid_nil, wid_cons, rcv_c, putv_I, putv_L, List.length_cons, List.length_nil, List.set_cons_zero, List.set_cons_succ, not_false_eq_true, Nat.reduceMod, Nat.reduceDiv, Nat.reduceEqDiff, Nat.reduceLT, Nat.reduceLeDiff, Nat.reduceAdd, Nat.reduceSub, reduceIte, Nat.lt_irrefl, Nat.zero_ne_one, Nat.one_ne_zero, Nat.zero_add, List.nil_append, List.cons_append, Option.toList_some, Option.toList_none, forall_const, false_implies, true_implies, false_or, or_false, true_or, or_true, i_le, i_lt, i_eq, i_eq0, i_lt0, i_0le, i_0lt, i_le0, i_in1, i_cl, nI_add, pk_mul, pk_sub, i_div, i_rem, i_sh1, i_bit, i_or, i_and, i_andn, nt_le, nf_le, nt_lt, nf_lt, nt_eq, nf_eq, not_true_eq_false, and_self, and_false, false_and, eq_self, Bool.toNat_true, Bool.toNat_false, i_bool, i_bool1, Bool.false_eq_true, Bool.true_eq_false, reduceCtorEq, i_neg1, i_neg2, i_neg3, i_neg4, i_neg5, i_neg6, i_neg7, i_neg8, i_neg9, i_nega, i_negb, i_negc, i_max2, i_min2, hi])
    exact pm h
  · obtain ⟨i, hi2, rfl⟩ := inb_nat hi
    cases hn : inB n 31
    · have key : wpM (d + 10) mX9_least [aR 8 0, aI (nI i), aI n] S (PM (-nI 1)) := by
        refine x_entry (ls2 := [aR 8 0, aI (nI i), aI n, aU, aU, aU]) (Nat.le_of_ble_eq_true rfl) pl_9 rfl (Nat.le_of_ble_eq_true rfl) ?_
        try simp (disch := omega) only [no0, no1, nz1, nz2, nz3, nz4, nz5, nz7, nz8, Classical.not_not, bz0, bz1, wi_nil, ld_0, ld_s, isIv_I, isLv_L, isRv_R, true_and, and_true, lset_0, lset_1, lset_s, avw_I, avw_L, avw_R, clr_cons, clr_nil, kst_0, kst_1, kstL_0, kstL_1, addk_I, pA_0, pA_s, pD_0, pD_s, wid_nil, wid_cons, rcv_c, putv_I, putv_L, List.length_cons, List.length_nil, List.set_cons_zero, List.set_cons_succ, not_false_eq_true, Nat.reduceMod, Nat.reduceDiv, Nat.reduceEqDiff, Nat.reduceLT, Nat.reduceLeDiff, Nat.reduceAdd, Nat.reduceSub, reduceIte, Nat.lt_irrefl, Nat.zero_ne_one, Nat.one_ne_zero, Nat.zero_add, List.nil_append, List.cons_append, Option.toList_some, Option.toList_none, forall_const, false_implies, true_implies, false_or, or_false, true_or, or_true, i_le, i_lt, i_eq, i_eq0, i_lt0, i_0le, i_0lt, i_le0, i_in1, i_cl, nI_add, pk_mul, pk_sub, i_div, i_rem, i_sh1, i_bit, i_or, i_and, i_andn, nt_le, nf_le, nt_lt, nf_lt, nt_eq, nf_eq, not_true_eq_false, and_self, and_false, false_and, eq_self, Bool.toNat_true, Bool.toNat_false, i_bool, i_bool1, Bool.false_eq_true, Bool.true_eq_false, reduceCtorEq, i_neg1, i_neg2, i_neg3, i_neg4, i_neg5, i_neg6, i_neg7, i_neg8, i_neg9, i_nega, i_negb, i_negc, i_max2, i_min2, wi_nil]
        repeat (
          first
          | refine s_X9_least_0 ?_
          | refine s_X9_least_5 ?_
          | refine s_X9_least_15 ?_
          | refine s_X9_least_18 ?_
          | refine s_X9_least_20 ?_
          | refine s_X9_least_24 ?_
          | refine s_X9_least_44 ?_
          | refine s_X9_least_57 ?_
          | refine s_X9_least_58 ?_
          | refine s_X9_least_75 ?_
          | refine s_X9_least_105 ?_
          simp (disch := omega) only [B_X9_least_0, wi_aload_n, wi_iload_n, wi_invokevirtual, cnt_8, B_X9_least_5, wi_if_eq, wi_iconst, wi_bipush, wi_invokestatic, B_X9_least_15, wi_if_ne, B_X9_least_18, wi_ireturn, B_X9_least_20, B_X9_least_24, wi_istore_n, wi_istore, B_X9_least_29, wi_iload, wi_icmp_ge, wi_getfield, fldv_8_21, fds_8_21, B_X9_least_44, wi_icmp_le, wi_goto, B_X9_least_57, B_X9_least_58, wi_iadd, B_X9_least_75, wi_iastore, wi_dup2, wi_iaload, wi_iinc, cnt_41, aTy_41, aLn_41, arr_41, B_X9_least_105, no0, no1, nz1, nz2, nz3, nz4, nz5, nz7, nz8, Classical.not_not, bz0, bz1, wi_nil, ld_0, ld_s, isIv_I, isLv_L, isRv_R, true_and, and_true, lset_0, lset_1, lset_s, avw_I, avw_L, avw_R, clr_cons, clr_nil, kst_0, kst_1, kstL_0, kstL_1, addk_I, pA_0, pA_s, pD_0, pD_s, wid_nil, wid_cons, rcv_c, putv_I, putv_L, List.length_cons, List.length_nil, List.set_cons_zero, List.set_cons_succ, not_false_eq_true, Nat.reduceMod, Nat.reduceDiv, Nat.reduceEqDiff, Nat.reduceLT, Nat.reduceLeDiff, Nat.reduceAdd, Nat.reduceSub, reduceIte, Nat.lt_irrefl, Nat.zero_ne_one, Nat.one_ne_zero, Nat.zero_add, List.nil_append, List.cons_append, Option.toList_some, Option.toList_none, forall_const, false_implies, true_implies, false_or, or_false, true_or, or_true, i_le, i_lt, i_eq, i_eq0, i_lt0, i_0le, i_0lt, i_le0, i_in1, i_cl, nI_add, pk_mul, pk_sub, i_div, i_rem, i_sh1, i_bit, i_or, i_and, i_andn, nt_le, nf_le, nt_lt, nf_lt, nt_eq, nf_eq, not_true_eq_false, and_self, and_false, false_and, eq_self, Bool.toNat_true, Bool.toNat_false, i_bool, i_bool1, Bool.false_eq_true, Bool.true_eq_false, reduceCtorEq, i_neg1, i_neg2, i_neg3, i_neg4, i_neg5, i_neg6, i_neg7, i_neg8, i_neg9, i_nega, i_negb, i_negc, i_max2, i_min2])
        refine c_mDeed hm hn5 ?_
        try simp (disch := omega) only [no0, no1, nz1, nz2, nz3, nz4, nz5, nz7, nz8, Classical.not_not, bz0, bz1, wi_nil, ld_0, ld_s, isIv_I, isLv_L, isRv_R, true_and, and_true, lset_0, lset_1, lset_s, avw_I, avw_L, avw_R, clr_cons, clr_nil, kst_0, kst_1, kstL_0, kstL_1, addk_I, pA_0, pA_s, pD_0, pD_s, wid_nil, wid_cons, rcv_c, putv_I, putv_L, List.length_cons, List.length_nil, List.set_cons_zero, List.set_cons_succ, not_false_eq_true, Nat.reduceMod, Nat.reduceDiv, Nat.reduceEqDiff, Nat.reduceLT, Nat.reduceLeDiff, Nat.reduceAdd, Nat.reduceSub, reduceIte, Nat.lt_irrefl, Nat.zero_ne_one, Nat.one_ne_zero, Nat.zero_add, List.nil_append, List.cons_append, Option.toList_some, Option.toList_none, forall_const, false_implies, true_implies, false_or, or_false, true_or, or_true, i_le, i_lt, i_eq, i_eq0, i_lt0, i_0le, i_0lt, i_le0, i_in1, i_cl, nI_add, pk_mul, pk_sub, i_div, i_rem, i_sh1, i_bit, i_or, i_and, i_andn, nt_le, nf_le, nt_lt, nf_lt, nt_eq, nf_eq, not_true_eq_false, and_self, and_false, false_and, eq_self, Bool.toNat_true, Bool.toNat_false, i_bool, i_bool1, Bool.false_eq_true, Bool.true_eq_false, reduceCtorEq, i_neg1, i_neg2, i_neg3, i_neg4, i_neg5, i_neg6, i_neg7, i_neg8, i_neg9, i_nega, i_negb, i_negc, i_max2, i_min2, hi, wi_nil]
        repeat (
          first
          | refine s_X9_least_0 ?_
          | refine s_X9_least_5 ?_
          | refine s_X9_least_15 ?_
          | refine s_X9_least_18 ?_
          | refine s_X9_least_20 ?_
          | refine s_X9_least_24 ?_
          | refine s_X9_least_44 ?_
          | refine s_X9_least_57 ?_
          | refine s_X9_least_58 ?_
          | refine s_X9_least_75 ?_
          | refine s_X9_least_105 ?_
          simp (disch := omega) only [B_X9_least_0, wi_aload_n, wi_iload_n, wi_invokevirtual, cnt_8, B_X9_least_5, wi_if_eq, wi_iconst, wi_bipush, wi_invokestatic, B_X9_least_15, wi_if_ne, B_X9_least_18, wi_ireturn, B_X9_least_20, B_X9_least_24, wi_istore_n, wi_istore, B_X9_least_29, wi_iload, wi_icmp_ge, wi_getfield, fldv_8_21, fds_8_21, B_X9_least_44, wi_icmp_le, wi_goto, B_X9_least_57, B_X9_least_58, wi_iadd, B_X9_least_75, wi_iastore, wi_dup2, wi_iaload, wi_iinc, cnt_41, aTy_41, aLn_41, arr_41, B_X9_least_105, no0, no1, nz1, nz2, nz3, nz4, nz5, nz7, nz8, Classical.not_not, bz0, bz1, wi_nil, ld_0, ld_s, isIv_I, isLv_L, isRv_R, true_and, and_true, lset_0, lset_1, lset_s, avw_I, avw_L, avw_R, clr_cons, clr_nil, kst_0, kst_1, kstL_0, kstL_1, addk_I, pA_0, pA_s, pD_0, pD_s, wid_nil, wid_cons, rcv_c, putv_I, putv_L, List.length_cons, List.length_nil, List.set_cons_zero, List.set_cons_succ, not_false_eq_true, Nat.reduceMod, Nat.reduceDiv, Nat.reduceEqDiff, Nat.reduceLT, Nat.reduceLeDiff, Nat.reduceAdd, Nat.reduceSub, reduceIte, Nat.lt_irrefl, Nat.zero_ne_one, Nat.one_ne_zero, Nat.zero_add, List.nil_append, List.cons_append, Option.toList_some, Option.toList_none, forall_const, false_implies, true_implies, false_or, or_false, true_or, or_true, i_le, i_lt, i_eq, i_eq0, i_lt0, i_0le, i_0lt, i_le0, i_in1, i_cl, nI_add, pk_mul, pk_sub, i_div, i_rem, i_sh1, i_bit, i_or, i_and, i_andn, nt_le, nf_le, nt_lt, nf_lt, nt_eq, nf_eq, not_true_eq_false, and_self, and_false, false_and, eq_self, Bool.toNat_true, Bool.toNat_false, i_bool, i_bool1, Bool.false_eq_true, Bool.true_eq_false, reduceCtorEq, i_neg1, i_neg2, i_neg3, i_neg4, i_neg5, i_neg6, i_neg7, i_neg8, i_neg9, i_nega, i_negb, i_negc, i_max2, i_min2, hi])
        refine c_in (inb_le (N := 30) (by decide)) ?_
        try simp (disch := omega) only [no0, no1, nz1, nz2, nz3, nz4, nz5, nz7, nz8, Classical.not_not, bz0, bz1, wi_nil, ld_0, ld_s, isIv_I, isLv_L, isRv_R, true_and, and_true, lset_0, lset_1, lset_s, avw_I, avw_L, avw_R, clr_cons, clr_nil, kst_0, kst_1, kstL_0, kstL_1, addk_I, pA_0, pA_s, pD_0, pD_s, wid_nil, wid_cons, rcv_c, putv_I, putv_L, List.length_cons, List.length_nil, List.set_cons_zero, List.set_cons_succ, not_false_eq_true, Nat.reduceMod, Nat.reduceDiv, Nat.reduceEqDiff, Nat.reduceLT, Nat.reduceLeDiff, Nat.reduceAdd, Nat.reduceSub, reduceIte, Nat.lt_irrefl, Nat.zero_ne_one, Nat.one_ne_zero, Nat.zero_add, List.nil_append, List.cons_append, Option.toList_some, Option.toList_none, forall_const, false_implies, true_implies, false_or, or_false, true_or, or_true, i_le, i_lt, i_eq, i_eq0, i_lt0, i_0le, i_0lt, i_le0, i_in1, i_cl, nI_add, pk_mul, pk_sub, i_div, i_rem, i_sh1, i_bit, i_or, i_and, i_andn, nt_le, nf_le, nt_lt, nf_lt, nt_eq, nf_eq, not_true_eq_false, and_self, and_false, false_and, eq_self, Bool.toNat_true, Bool.toNat_false, i_bool, i_bool1, Bool.false_eq_true, Bool.true_eq_false, reduceCtorEq, i_neg1, i_neg2, i_neg3, i_neg4, i_neg5, i_neg6, i_neg7, i_neg8, i_neg9, i_nega, i_negb, i_negc, i_max2, i_min2, hn, wi_nil]
        repeat (
          first
          | refine s_X9_least_0 ?_
          | refine s_X9_least_5 ?_
          | refine s_X9_least_15 ?_
          | refine s_X9_least_18 ?_
          | refine s_X9_least_20 ?_
          | refine s_X9_least_24 ?_
          | refine s_X9_least_44 ?_
          | refine s_X9_least_57 ?_
          | refine s_X9_least_58 ?_
          | refine s_X9_least_75 ?_
          | refine s_X9_least_105 ?_
          simp (disch := omega) only [B_X9_least_0, wi_aload_n, wi_iload_n, wi_invokevirtual, cnt_8, B_X9_least_5, wi_if_eq, wi_iconst, wi_bipush, wi_invokestatic, B_X9_least_15, wi_if_ne, B_X9_least_18, wi_ireturn, B_X9_least_20, B_X9_least_24, wi_istore_n, wi_istore, B_X9_least_29, wi_iload, wi_icmp_ge, wi_getfield, fldv_8_21, fds_8_21, B_X9_least_44, wi_icmp_le, wi_goto, B_X9_least_57, B_X9_least_58, wi_iadd, B_X9_least_75, wi_iastore, wi_dup2, wi_iaload, wi_iinc, cnt_41, aTy_41, aLn_41, arr_41, B_X9_least_105, no0, no1, nz1, nz2, nz3, nz4, nz5, nz7, nz8, Classical.not_not, bz0, bz1, wi_nil, ld_0, ld_s, isIv_I, isLv_L, isRv_R, true_and, and_true, lset_0, lset_1, lset_s, avw_I, avw_L, avw_R, clr_cons, clr_nil, kst_0, kst_1, kstL_0, kstL_1, addk_I, pA_0, pA_s, pD_0, pD_s, wid_nil, wid_cons, rcv_c, putv_I, putv_L, List.length_cons, List.length_nil, List.set_cons_zero, List.set_cons_succ, not_false_eq_true, Nat.reduceMod, Nat.reduceDiv, Nat.reduceEqDiff, Nat.reduceLT, Nat.reduceLeDiff, Nat.reduceAdd, Nat.reduceSub, reduceIte, Nat.lt_irrefl, Nat.zero_ne_one, Nat.one_ne_zero, Nat.zero_add, List.nil_append, List.cons_append, Option.toList_some, Option.toList_none, forall_const, false_implies, true_implies, false_or, or_false, true_or, or_true, i_le, i_lt, i_eq, i_eq0, i_lt0, i_0le, i_0lt, i_le0, i_in1, i_cl, nI_add, pk_mul, pk_sub, i_div, i_rem, i_sh1, i_bit, i_or, i_and, i_andn, nt_le, nf_le, nt_lt, nf_lt, nt_eq, nf_eq, not_true_eq_false, and_self, and_false, false_and, eq_self, Bool.toNat_true, Bool.toNat_false, i_bool, i_bool1, Bool.false_eq_true, Bool.true_eq_false, reduceCtorEq, i_neg1, i_neg2, i_neg3, i_neg4, i_neg5, i_neg6, i_neg7, i_neg8, i_neg9, i_nega, i_negb, i_negc, i_max2, i_min2, hn])
        exact pm h
      rcases off_gt (N := 30) (by decide) hn with a | ⟨a, b, -⟩
      · refine x_entry (ls2 := [aR 7 0, aI (nI i), aI n, aU, aU, aU, aU]) (Nat.le_of_ble_eq_true rfl) pl_8 rfl (Nat.le_of_ble_eq_true rfl) ?_
        try simp (disch := omega) only [no0, no1, nz1, nz2, nz3, nz4, nz5, nz7, nz8, Classical.not_not, bz0, bz1, wi_nil, ld_0, ld_s, isIv_I, isLv_L, isRv_R, true_and, and_true, lset_0, lset_1, lset_s, avw_I, avw_L, avw_R, clr_cons, clr_nil, kst_0, kst_1, kstL_0, kstL_1, addk_I, pA_0, pA_s, pD_0, pD_s, wid_nil, wid_cons, rcv_c, putv_I, putv_L, List.length_cons, List.length_nil, List.set_cons_zero, List.set_cons_succ, not_false_eq_true, Nat.reduceMod, Nat.reduceDiv, Nat.reduceEqDiff, Nat.reduceLT, Nat.reduceLeDiff, Nat.reduceAdd, Nat.reduceSub, reduceIte, Nat.lt_irrefl, Nat.zero_ne_one, Nat.one_ne_zero, Nat.zero_add, List.nil_append, List.cons_append, Option.toList_some, Option.toList_none, forall_const, false_implies, true_implies, false_or, or_false, true_or, or_true, i_le, i_lt, i_eq, i_eq0, i_lt0, i_0le, i_0lt, i_le0, i_in1, i_cl, nI_add, pk_mul, pk_sub, i_div, i_rem, i_sh1, i_bit, i_or, i_and, i_andn, nt_le, nf_le, nt_lt, nf_lt, nt_eq, nf_eq, not_true_eq_false, and_self, and_false, false_and, eq_self, Bool.toNat_true, Bool.toNat_false, i_bool, i_bool1, Bool.false_eq_true, Bool.true_eq_false, reduceCtorEq, i_neg1, i_neg2, i_neg3, i_neg4, i_neg5, i_neg6, i_neg7, i_neg8, i_neg9, i_nega, i_negb, i_negc, i_max2, i_min2, wi_nil]
        repeat (
          first
          | refine s_X8_least_0 ?_
          | refine s_X8_least_5 ?_
          | refine s_X8_least_18 ?_
          | refine s_X8_least_20 ?_
          | refine s_X8_least_95 ?_
          | refine s_X8_least_119 ?_
          | refine s_X8_least_126 ?_
          simp (disch := omega) only [B_X8_least_0, wi_aload_n, wi_iload_n, wi_invokevirtual, cnt_7, B_X8_least_5, wi_if_eq, wi_if_lt, wi_bipush, wi_icmp_le, B_X8_least_18, wi_iconst, wi_ireturn, B_X8_least_20, wi_getfield, fldv_7_3, fds_7_3, fldv_6_2, fds_6_2, cnt_6, wi_iaload, wi_istore_n, wi_istore, cnt_20, aTy_20, aLn_20, arr_20, cnt_21, aTy_21, aLn_21, arr_21, cnt_22, aTy_22, aLn_22, arr_22, cnt_23, aTy_23, aLn_23, arr_23, cnt_24, aTy_24, aLn_24, arr_24, B_X8_least_36, wi_iload, wi_icmp_ge, fldv_6_0, fds_6_0, fldv_6_1, fds_6_1, fldv_6_3, fds_6_3, fldv_6_4, fds_6_4, wi_iadd, fldv_6_8, fds_6_8, wi_invokestatic, B_X8_least_95, wi_max, B_X8_least_119, wi_iinc, wi_goto, B_X8_least_126, no0, no1, nz1, nz2, nz3, nz4, nz5, nz7, nz8, Classical.not_not, bz0, bz1, wi_nil, ld_0, ld_s, isIv_I, isLv_L, isRv_R, true_and, and_true, lset_0, lset_1, lset_s, avw_I, avw_L, avw_R, clr_cons, clr_nil, kst_0, kst_1, kstL_0, kstL_1, addk_I, pA_0, pA_s, pD_0, pD_s, wid_nil, wid_cons, rcv_c, putv_I, putv_L, List.length_cons, List.length_nil, List.set_cons_zero, List.set_cons_succ, not_false_eq_true, Nat.reduceMod, Nat.reduceDiv, Nat.reduceEqDiff, Nat.reduceLT, Nat.reduceLeDiff, Nat.reduceAdd, Nat.reduceSub, reduceIte, Nat.lt_irrefl, Nat.zero_ne_one, Nat.one_ne_zero, Nat.zero_add, List.nil_append, List.cons_append, Option.toList_some, Option.toList_none, forall_const, false_implies, true_implies, false_or, or_false, true_or, or_true, i_le, i_lt, i_eq, i_eq0, i_lt0, i_0le, i_0lt, i_le0, i_in1, i_cl, nI_add, pk_mul, pk_sub, i_div, i_rem, i_sh1, i_bit, i_or, i_and, i_andn, nt_le, nf_le, nt_lt, nf_lt, nt_eq, nf_eq, not_true_eq_false, and_self, and_false, false_and, eq_self, Bool.toNat_true, Bool.toNat_false, i_bool, i_bool1, Bool.false_eq_true, Bool.true_eq_false, reduceCtorEq, i_neg1, i_neg2, i_neg3, i_neg4, i_neg5, i_neg6, i_neg7, i_neg8, i_neg9, i_nega, i_negb, i_negc, i_max2, i_min2])
        refine c_isDeed hy hn5 ?_
        try simp (disch := omega) only [no0, no1, nz1, nz2, nz3, nz4, nz5, nz7, nz8, Classical.not_not, bz0, bz1, wi_nil, ld_0, ld_s, isIv_I, isLv_L, isRv_R, true_and, and_true, lset_0, lset_1, lset_s, avw_I, avw_L, avw_R, clr_cons, clr_nil, kst_0, kst_1, kstL_0, kstL_1, addk_I, pA_0, pA_s, pD_0, pD_s, wid_nil, wid_cons, rcv_c, putv_I, putv_L, List.length_cons, List.length_nil, List.set_cons_zero, List.set_cons_succ, not_false_eq_true, Nat.reduceMod, Nat.reduceDiv, Nat.reduceEqDiff, Nat.reduceLT, Nat.reduceLeDiff, Nat.reduceAdd, Nat.reduceSub, reduceIte, Nat.lt_irrefl, Nat.zero_ne_one, Nat.one_ne_zero, Nat.zero_add, List.nil_append, List.cons_append, Option.toList_some, Option.toList_none, forall_const, false_implies, true_implies, false_or, or_false, true_or, or_true, i_le, i_lt, i_eq, i_eq0, i_lt0, i_0le, i_0lt, i_le0, i_in1, i_cl, nI_add, pk_mul, pk_sub, i_div, i_rem, i_sh1, i_bit, i_or, i_and, i_andn, nt_le, nf_le, nt_lt, nf_lt, nt_eq, nf_eq, not_true_eq_false, and_self, and_false, false_and, eq_self, Bool.toNat_true, Bool.toNat_false, i_bool, i_bool1, Bool.false_eq_true, Bool.true_eq_false, reduceCtorEq, i_neg1, i_neg2, i_neg3, i_neg4, i_neg5, i_neg6, i_neg7, i_neg8, i_neg9, i_nega, i_negb, i_negc, i_max2, i_min2, hi, a, wi_nil]
        repeat (
          first
          | refine s_X8_least_0 ?_
          | refine s_X8_least_5 ?_
          | refine s_X8_least_18 ?_
          | refine s_X8_least_20 ?_
          | refine s_X8_least_95 ?_
          | refine s_X8_least_119 ?_
          | refine s_X8_least_126 ?_
          simp (disch := omega) only [B_X8_least_0, wi_aload_n, wi_iload_n, wi_invokevirtual, cnt_7, B_X8_least_5, wi_if_eq, wi_if_lt, wi_bipush, wi_icmp_le, B_X8_least_18, wi_iconst, wi_ireturn, B_X8_least_20, wi_getfield, fldv_7_3, fds_7_3, fldv_6_2, fds_6_2, cnt_6, wi_iaload, wi_istore_n, wi_istore, cnt_20, aTy_20, aLn_20, arr_20, cnt_21, aTy_21, aLn_21, arr_21, cnt_22, aTy_22, aLn_22, arr_22, cnt_23, aTy_23, aLn_23, arr_23, cnt_24, aTy_24, aLn_24, arr_24, B_X8_least_36, wi_iload, wi_icmp_ge, fldv_6_0, fds_6_0, fldv_6_1, fds_6_1, fldv_6_3, fds_6_3, fldv_6_4, fds_6_4, wi_iadd, fldv_6_8, fds_6_8, wi_invokestatic, B_X8_least_95, wi_max, B_X8_least_119, wi_iinc, wi_goto, B_X8_least_126, no0, no1, nz1, nz2, nz3, nz4, nz5, nz7, nz8, Classical.not_not, bz0, bz1, wi_nil, ld_0, ld_s, isIv_I, isLv_L, isRv_R, true_and, and_true, lset_0, lset_1, lset_s, avw_I, avw_L, avw_R, clr_cons, clr_nil, kst_0, kst_1, kstL_0, kstL_1, addk_I, pA_0, pA_s, pD_0, pD_s, wid_nil, wid_cons, rcv_c, putv_I, putv_L, List.length_cons, List.length_nil, List.set_cons_zero, List.set_cons_succ, not_false_eq_true, Nat.reduceMod, Nat.reduceDiv, Nat.reduceEqDiff, Nat.reduceLT, Nat.reduceLeDiff, Nat.reduceAdd, Nat.reduceSub, reduceIte, Nat.lt_irrefl, Nat.zero_ne_one, Nat.one_ne_zero, Nat.zero_add, List.nil_append, List.cons_append, Option.toList_some, Option.toList_none, forall_const, false_implies, true_implies, false_or, or_false, true_or, or_true, i_le, i_lt, i_eq, i_eq0, i_lt0, i_0le, i_0lt, i_le0, i_in1, i_cl, nI_add, pk_mul, pk_sub, i_div, i_rem, i_sh1, i_bit, i_or, i_and, i_andn, nt_le, nf_le, nt_lt, nf_lt, nt_eq, nf_eq, not_true_eq_false, and_self, and_false, false_and, eq_self, Bool.toNat_true, Bool.toNat_false, i_bool, i_bool1, Bool.false_eq_true, Bool.true_eq_false, reduceCtorEq, i_neg1, i_neg2, i_neg3, i_neg4, i_neg5, i_neg6, i_neg7, i_neg8, i_neg9, i_nega, i_negb, i_negc, i_max2, i_min2, hi, a])
        exact px key
      · refine x_entry (ls2 := [aR 7 0, aI (nI i), aI n, aU, aU, aU, aU]) (Nat.le_of_ble_eq_true rfl) pl_8 rfl (Nat.le_of_ble_eq_true rfl) ?_
        try simp (disch := omega) only [no0, no1, nz1, nz2, nz3, nz4, nz5, nz7, nz8, Classical.not_not, bz0, bz1, wi_nil, ld_0, ld_s, isIv_I, isLv_L, isRv_R, true_and, and_true, lset_0, lset_1, lset_s, avw_I, avw_L, avw_R, clr_cons, clr_nil, kst_0, kst_1, kstL_0, kstL_1, addk_I, pA_0, pA_s, pD_0, pD_s, wid_nil, wid_cons, rcv_c, putv_I, putv_L, List.length_cons, List.length_nil, List.set_cons_zero, List.set_cons_succ, not_false_eq_true, Nat.reduceMod, Nat.reduceDiv, Nat.reduceEqDiff, Nat.reduceLT, Nat.reduceLeDiff, Nat.reduceAdd, Nat.reduceSub, reduceIte, Nat.lt_irrefl, Nat.zero_ne_one, Nat.one_ne_zero, Nat.zero_add, List.nil_append, List.cons_append, Option.toList_some, Option.toList_none, forall_const, false_implies, true_implies, false_or, or_false, true_or, or_true, i_le, i_lt, i_eq, i_eq0, i_lt0, i_0le, i_0lt, i_le0, i_in1, i_cl, nI_add, pk_mul, pk_sub, i_div, i_rem, i_sh1, i_bit, i_or, i_and, i_andn, nt_le, nf_le, nt_lt, nf_lt, nt_eq, nf_eq, not_true_eq_false, and_self, and_false, false_and, eq_self, Bool.toNat_true, Bool.toNat_false, i_bool, i_bool1, Bool.false_eq_true, Bool.true_eq_false, reduceCtorEq, i_neg1, i_neg2, i_neg3, i_neg4, i_neg5, i_neg6, i_neg7, i_neg8, i_neg9, i_nega, i_negb, i_negc, i_max2, i_min2, wi_nil]
        repeat (
          first
          | refine s_X8_least_0 ?_
          | refine s_X8_least_5 ?_
          | refine s_X8_least_18 ?_
          | refine s_X8_least_20 ?_
          | refine s_X8_least_95 ?_
          | refine s_X8_least_119 ?_
          | refine s_X8_least_126 ?_
          simp (disch := omega) only [B_X8_least_0, wi_aload_n, wi_iload_n, wi_invokevirtual, cnt_7, B_X8_least_5, wi_if_eq, wi_if_lt, wi_bipush, wi_icmp_le, B_X8_least_18, wi_iconst, wi_ireturn, B_X8_least_20, wi_getfield, fldv_7_3, fds_7_3, fldv_6_2, fds_6_2, cnt_6, wi_iaload, wi_istore_n, wi_istore, cnt_20, aTy_20, aLn_20, arr_20, cnt_21, aTy_21, aLn_21, arr_21, cnt_22, aTy_22, aLn_22, arr_22, cnt_23, aTy_23, aLn_23, arr_23, cnt_24, aTy_24, aLn_24, arr_24, B_X8_least_36, wi_iload, wi_icmp_ge, fldv_6_0, fds_6_0, fldv_6_1, fds_6_1, fldv_6_3, fds_6_3, fldv_6_4, fds_6_4, wi_iadd, fldv_6_8, fds_6_8, wi_invokestatic, B_X8_least_95, wi_max, B_X8_least_119, wi_iinc, wi_goto, B_X8_least_126, no0, no1, nz1, nz2, nz3, nz4, nz5, nz7, nz8, Classical.not_not, bz0, bz1, wi_nil, ld_0, ld_s, isIv_I, isLv_L, isRv_R, true_and, and_true, lset_0, lset_1, lset_s, avw_I, avw_L, avw_R, clr_cons, clr_nil, kst_0, kst_1, kstL_0, kstL_1, addk_I, pA_0, pA_s, pD_0, pD_s, wid_nil, wid_cons, rcv_c, putv_I, putv_L, List.length_cons, List.length_nil, List.set_cons_zero, List.set_cons_succ, not_false_eq_true, Nat.reduceMod, Nat.reduceDiv, Nat.reduceEqDiff, Nat.reduceLT, Nat.reduceLeDiff, Nat.reduceAdd, Nat.reduceSub, reduceIte, Nat.lt_irrefl, Nat.zero_ne_one, Nat.one_ne_zero, Nat.zero_add, List.nil_append, List.cons_append, Option.toList_some, Option.toList_none, forall_const, false_implies, true_implies, false_or, or_false, true_or, or_true, i_le, i_lt, i_eq, i_eq0, i_lt0, i_0le, i_0lt, i_le0, i_in1, i_cl, nI_add, pk_mul, pk_sub, i_div, i_rem, i_sh1, i_bit, i_or, i_and, i_andn, nt_le, nf_le, nt_lt, nf_lt, nt_eq, nf_eq, not_true_eq_false, and_self, and_false, false_and, eq_self, Bool.toNat_true, Bool.toNat_false, i_bool, i_bool1, Bool.false_eq_true, Bool.true_eq_false, reduceCtorEq, i_neg1, i_neg2, i_neg3, i_neg4, i_neg5, i_neg6, i_neg7, i_neg8, i_neg9, i_nega, i_negb, i_negc, i_max2, i_min2])
        refine c_isDeed hy hn5 ?_
        try simp (disch := omega) only [no0, no1, nz1, nz2, nz3, nz4, nz5, nz7, nz8, Classical.not_not, bz0, bz1, wi_nil, ld_0, ld_s, isIv_I, isLv_L, isRv_R, true_and, and_true, lset_0, lset_1, lset_s, avw_I, avw_L, avw_R, clr_cons, clr_nil, kst_0, kst_1, kstL_0, kstL_1, addk_I, pA_0, pA_s, pD_0, pD_s, wid_nil, wid_cons, rcv_c, putv_I, putv_L, List.length_cons, List.length_nil, List.set_cons_zero, List.set_cons_succ, not_false_eq_true, Nat.reduceMod, Nat.reduceDiv, Nat.reduceEqDiff, Nat.reduceLT, Nat.reduceLeDiff, Nat.reduceAdd, Nat.reduceSub, reduceIte, Nat.lt_irrefl, Nat.zero_ne_one, Nat.one_ne_zero, Nat.zero_add, List.nil_append, List.cons_append, Option.toList_some, Option.toList_none, forall_const, false_implies, true_implies, false_or, or_false, true_or, or_true, i_le, i_lt, i_eq, i_eq0, i_lt0, i_0le, i_0lt, i_le0, i_in1, i_cl, nI_add, pk_mul, pk_sub, i_div, i_rem, i_sh1, i_bit, i_or, i_and, i_andn, nt_le, nf_le, nt_lt, nf_lt, nt_eq, nf_eq, not_true_eq_false, and_self, and_false, false_and, eq_self, Bool.toNat_true, Bool.toNat_false, i_bool, i_bool1, Bool.false_eq_true, Bool.true_eq_false, reduceCtorEq, i_neg1, i_neg2, i_neg3, i_neg4, i_neg5, i_neg6, i_neg7, i_neg8, i_neg9, i_nega, i_negb, i_negc, i_max2, i_min2, hi, a, b, wi_nil]
        repeat (
          first
          | refine s_X8_least_0 ?_
          | refine s_X8_least_5 ?_
          | refine s_X8_least_18 ?_
          | refine s_X8_least_20 ?_
          | refine s_X8_least_95 ?_
          | refine s_X8_least_119 ?_
          | refine s_X8_least_126 ?_
          simp (disch := omega) only [B_X8_least_0, wi_aload_n, wi_iload_n, wi_invokevirtual, cnt_7, B_X8_least_5, wi_if_eq, wi_if_lt, wi_bipush, wi_icmp_le, B_X8_least_18, wi_iconst, wi_ireturn, B_X8_least_20, wi_getfield, fldv_7_3, fds_7_3, fldv_6_2, fds_6_2, cnt_6, wi_iaload, wi_istore_n, wi_istore, cnt_20, aTy_20, aLn_20, arr_20, cnt_21, aTy_21, aLn_21, arr_21, cnt_22, aTy_22, aLn_22, arr_22, cnt_23, aTy_23, aLn_23, arr_23, cnt_24, aTy_24, aLn_24, arr_24, B_X8_least_36, wi_iload, wi_icmp_ge, fldv_6_0, fds_6_0, fldv_6_1, fds_6_1, fldv_6_3, fds_6_3, fldv_6_4, fds_6_4, wi_iadd, fldv_6_8, fds_6_8, wi_invokestatic, B_X8_least_95, wi_max, B_X8_least_119, wi_iinc, wi_goto, B_X8_least_126, no0, no1, nz1, nz2, nz3, nz4, nz5, nz7, nz8, Classical.not_not, bz0, bz1, wi_nil, ld_0, ld_s, isIv_I, isLv_L, isRv_R, true_and, and_true, lset_0, lset_1, lset_s, avw_I, avw_L, avw_R, clr_cons, clr_nil, kst_0, kst_1, kstL_0, kstL_1, addk_I, pA_0, pA_s, pD_0, pD_s, wid_nil, wid_cons, rcv_c, putv_I, putv_L, List.length_cons, List.length_nil, List.set_cons_zero, List.set_cons_succ, not_false_eq_true, Nat.reduceMod, Nat.reduceDiv, Nat.reduceEqDiff, Nat.reduceLT, Nat.reduceLeDiff, Nat.reduceAdd, Nat.reduceSub, reduceIte, Nat.lt_irrefl, Nat.zero_ne_one, Nat.one_ne_zero, Nat.zero_add, List.nil_append, List.cons_append, Option.toList_some, Option.toList_none, forall_const, false_implies, true_implies, false_or, or_false, true_or, or_true, i_le, i_lt, i_eq, i_eq0, i_lt0, i_0le, i_0lt, i_le0, i_in1, i_cl, nI_add, pk_mul, pk_sub, i_div, i_rem, i_sh1, i_bit, i_or, i_and, i_andn, nt_le, nf_le, nt_lt, nf_lt, nt_eq, nf_eq, not_true_eq_false, and_self, and_false, false_and, eq_self, Bool.toNat_true, Bool.toNat_false, i_bool, i_bool1, Bool.false_eq_true, Bool.true_eq_false, reduceCtorEq, i_neg1, i_neg2, i_neg3, i_neg4, i_neg5, i_neg6, i_neg7, i_neg8, i_neg9, i_nega, i_negb, i_negc, i_max2, i_min2, hi, a, b])
        exact px key
    · obtain ⟨n, hn2, rfl⟩ := inb_nat hn
      have hb := hok.2 i hi2
      refine x_entry (ls2 := [aR 7 0, aI (nI i), aI (nI n), aU, aU, aU, aU]) (Nat.le_of_ble_eq_true rfl) pl_8 rfl (Nat.le_of_ble_eq_true rfl) ?_
      try simp (disch := omega) only [no0, no1, nz1, nz2, nz3, nz4, nz5, nz7, nz8, Classical.not_not, bz0, bz1, wi_nil, ld_0, ld_s, isIv_I, isLv_L, isRv_R, true_and, and_true, lset_0, lset_1, lset_s, avw_I, avw_L, avw_R, clr_cons, clr_nil, kst_0, kst_1, kstL_0, kstL_1, addk_I, pA_0, pA_s, pD_0, pD_s, wid_nil, wid_cons, rcv_c, putv_I, putv_L, List.length_cons, List.length_nil, List.set_cons_zero, List.set_cons_succ, not_false_eq_true, Nat.reduceMod, Nat.reduceDiv, Nat.reduceEqDiff, Nat.reduceLT, Nat.reduceLeDiff, Nat.reduceAdd, Nat.reduceSub, reduceIte, Nat.lt_irrefl, Nat.zero_ne_one, Nat.one_ne_zero, Nat.zero_add, List.nil_append, List.cons_append, Option.toList_some, Option.toList_none, forall_const, false_implies, true_implies, false_or, or_false, true_or, or_true, i_le, i_lt, i_eq, i_eq0, i_lt0, i_0le, i_0lt, i_le0, i_in1, i_cl, nI_add, pk_mul, pk_sub, i_div, i_rem, i_sh1, i_bit, i_or, i_and, i_andn, nt_le, nf_le, nt_lt, nf_lt, nt_eq, nf_eq, not_true_eq_false, and_self, and_false, false_and, eq_self, Bool.toNat_true, Bool.toNat_false, i_bool, i_bool1, Bool.false_eq_true, Bool.true_eq_false, reduceCtorEq, i_neg1, i_neg2, i_neg3, i_neg4, i_neg5, i_neg6, i_neg7, i_neg8, i_neg9, i_nega, i_negb, i_negc, i_max2, i_min2, wi_nil]
      repeat (
        first
        | refine s_X8_least_0 ?_
        | refine s_X8_least_5 ?_
        | refine s_X8_least_18 ?_
        | refine s_X8_least_20 ?_
        | refine s_X8_least_95 ?_
        | refine s_X8_least_119 ?_
        | refine s_X8_least_126 ?_
        simp (disch := omega) only [B_X8_least_0, wi_aload_n, wi_iload_n, wi_invokevirtual, cnt_7, B_X8_least_5, wi_if_eq, wi_if_lt, wi_bipush, wi_icmp_le, B_X8_least_18, wi_iconst, wi_ireturn, B_X8_least_20, wi_getfield, fldv_7_3, fds_7_3, fldv_6_2, fds_6_2, cnt_6, wi_iaload, wi_istore_n, wi_istore, cnt_20, aTy_20, aLn_20, arr_20, cnt_21, aTy_21, aLn_21, arr_21, cnt_22, aTy_22, aLn_22, arr_22, cnt_23, aTy_23, aLn_23, arr_23, cnt_24, aTy_24, aLn_24, arr_24, B_X8_least_36, wi_iload, wi_icmp_ge, fldv_6_0, fds_6_0, fldv_6_1, fds_6_1, fldv_6_3, fds_6_3, fldv_6_4, fds_6_4, wi_iadd, fldv_6_8, fds_6_8, wi_invokestatic, B_X8_least_95, wi_max, B_X8_least_119, wi_iinc, wi_goto, B_X8_least_126, no0, no1, nz1, nz2, nz3, nz4, nz5, nz7, nz8, Classical.not_not, bz0, bz1, wi_nil, ld_0, ld_s, isIv_I, isLv_L, isRv_R, true_and, and_true, lset_0, lset_1, lset_s, avw_I, avw_L, avw_R, clr_cons, clr_nil, kst_0, kst_1, kstL_0, kstL_1, addk_I, pA_0, pA_s, pD_0, pD_s, wid_nil, wid_cons, rcv_c, putv_I, putv_L, List.length_cons, List.length_nil, List.set_cons_zero, List.set_cons_succ, not_false_eq_true, Nat.reduceMod, Nat.reduceDiv, Nat.reduceEqDiff, Nat.reduceLT, Nat.reduceLeDiff, Nat.reduceAdd, Nat.reduceSub, reduceIte, Nat.lt_irrefl, Nat.zero_ne_one, Nat.one_ne_zero, Nat.zero_add, List.nil_append, List.cons_append, Option.toList_some, Option.toList_none, forall_const, false_implies, true_implies, false_or, or_false, true_or, or_true, i_le, i_lt, i_eq, i_eq0, i_lt0, i_0le, i_0lt, i_le0, i_in1, i_cl, nI_add, pk_mul, pk_sub, i_div, i_rem, i_sh1, i_bit, i_or, i_and, i_andn, nt_le, nf_le, nt_lt, nf_lt, nt_eq, nf_eq, not_true_eq_false, and_self, and_false, false_and, eq_self, Bool.toNat_true, Bool.toNat_false, i_bool, i_bool1, Bool.false_eq_true, Bool.true_eq_false, reduceCtorEq, i_neg1, i_neg2, i_neg3, i_neg4, i_neg5, i_neg6, i_neg7, i_neg8, i_neg9, i_nega, i_negb, i_negc, i_max2, i_min2])
      refine c_isDeed hy hn5 ?_
      try simp (disch := omega) only [no0, no1, nz1, nz2, nz3, nz4, nz5, nz7, nz8, Classical.not_not, bz0, bz1, wi_nil, ld_0, ld_s, isIv_I, isLv_L, isRv_R, true_and, and_true, lset_0, lset_1, lset_s, avw_I, avw_L, avw_R, clr_cons, clr_nil, kst_0, kst_1, kstL_0, kstL_1, addk_I, pA_0, pA_s, pD_0, pD_s, wid_nil, wid_cons, rcv_c, putv_I, putv_L, List.length_cons, List.length_nil, List.set_cons_zero, List.set_cons_succ, not_false_eq_true, Nat.reduceMod, Nat.reduceDiv, Nat.reduceEqDiff, Nat.reduceLT, Nat.reduceLeDiff, Nat.reduceAdd, Nat.reduceSub, reduceIte, Nat.lt_irrefl, Nat.zero_ne_one, Nat.one_ne_zero, Nat.zero_add, List.nil_append, List.cons_append, Option.toList_some, Option.toList_none, forall_const, false_implies, true_implies, false_or, or_false, true_or, or_true, i_le, i_lt, i_eq, i_eq0, i_lt0, i_0le, i_0lt, i_le0, i_in1, i_cl, nI_add, pk_mul, pk_sub, i_div, i_rem, i_sh1, i_bit, i_or, i_and, i_andn, nt_le, nf_le, nt_lt, nf_lt, nt_eq, nf_eq, not_true_eq_false, and_self, and_false, false_and, eq_self, Bool.toNat_true, Bool.toNat_false, i_bool, i_bool1, Bool.false_eq_true, Bool.true_eq_false, reduceCtorEq, i_neg1, i_neg2, i_neg3, i_neg4, i_neg5, i_neg6, i_neg7, i_neg8, i_neg9, i_nega, i_negb, i_negc, i_max2, i_min2, hi, (y_hab hy), wi_nil]
      repeat (
        first
        | refine s_X8_least_0 ?_
        | refine s_X8_least_5 ?_
        | refine s_X8_least_18 ?_
        | refine s_X8_least_20 ?_
        | refine s_X8_least_95 ?_
        | refine s_X8_least_119 ?_
        | refine s_X8_least_126 ?_
        simp (disch := omega) only [B_X8_least_0, wi_aload_n, wi_iload_n, wi_invokevirtual, cnt_7, B_X8_least_5, wi_if_eq, wi_if_lt, wi_bipush, wi_icmp_le, B_X8_least_18, wi_iconst, wi_ireturn, B_X8_least_20, wi_getfield, fldv_7_3, fds_7_3, fldv_6_2, fds_6_2, cnt_6, wi_iaload, wi_istore_n, wi_istore, cnt_20, aTy_20, aLn_20, arr_20, cnt_21, aTy_21, aLn_21, arr_21, cnt_22, aTy_22, aLn_22, arr_22, cnt_23, aTy_23, aLn_23, arr_23, cnt_24, aTy_24, aLn_24, arr_24, B_X8_least_36, wi_iload, wi_icmp_ge, fldv_6_0, fds_6_0, fldv_6_1, fds_6_1, fldv_6_3, fds_6_3, fldv_6_4, fds_6_4, wi_iadd, fldv_6_8, fds_6_8, wi_invokestatic, B_X8_least_95, wi_max, B_X8_least_119, wi_iinc, wi_goto, B_X8_least_126, no0, no1, nz1, nz2, nz3, nz4, nz5, nz7, nz8, Classical.not_not, bz0, bz1, wi_nil, ld_0, ld_s, isIv_I, isLv_L, isRv_R, true_and, and_true, lset_0, lset_1, lset_s, avw_I, avw_L, avw_R, clr_cons, clr_nil, kst_0, kst_1, kstL_0, kstL_1, addk_I, pA_0, pA_s, pD_0, pD_s, wid_nil, wid_cons, rcv_c, putv_I, putv_L, List.length_cons, List.length_nil, List.set_cons_zero, List.set_cons_succ, not_false_eq_true, Nat.reduceMod, Nat.reduceDiv, Nat.reduceEqDiff, Nat.reduceLT, Nat.reduceLeDiff, Nat.reduceAdd, Nat.reduceSub, reduceIte, Nat.lt_irrefl, Nat.zero_ne_one, Nat.one_ne_zero, Nat.zero_add, List.nil_append, List.cons_append, Option.toList_some, Option.toList_none, forall_const, false_implies, true_implies, false_or, or_false, true_or, or_true, i_le, i_lt, i_eq, i_eq0, i_lt0, i_0le, i_0lt, i_le0, i_in1, i_cl, nI_add, pk_mul, pk_sub, i_div, i_rem, i_sh1, i_bit, i_or, i_and, i_andn, nt_le, nf_le, nt_lt, nf_lt, nt_eq, nf_eq, not_true_eq_false, and_self, and_false, false_and, eq_self, Bool.toNat_true, Bool.toNat_false, i_bool, i_bool1, Bool.false_eq_true, Bool.true_eq_false, reduceCtorEq, i_neg1, i_neg2, i_neg3, i_neg4, i_neg5, i_neg6, i_neg7, i_neg8, i_neg9, i_nega, i_negb, i_negc, i_max2, i_min2, hi, (y_hab hy)])
      refine l_xleast (R := lsR Y i n 0 (Y 2 i) 0) (by omega) hi2 hy hok ?_ n 0 (Y 2 i) 0 (by omega) hb.2.2.1 (by omega) rfl
      refine px ?_
      refine x_entry (ls2 := [aR 8 0, aI (nI i), aI (nI n), aU, aU, aU]) (Nat.le_of_ble_eq_true rfl) pl_9 rfl (Nat.le_of_ble_eq_true rfl) ?_
      try simp (disch := omega) only [no0, no1, nz1, nz2, nz3, nz4, nz5, nz7, nz8, Classical.not_not, bz0, bz1, wi_nil, ld_0, ld_s, isIv_I, isLv_L, isRv_R, true_and, and_true, lset_0, lset_1, lset_s, avw_I, avw_L, avw_R, clr_cons, clr_nil, kst_0, kst_1, kstL_0, kstL_1, addk_I, pA_0, pA_s, pD_0, pD_s, wid_nil, wid_cons, rcv_c, putv_I, putv_L, List.length_cons, List.length_nil, List.set_cons_zero, List.set_cons_succ, not_false_eq_true, Nat.reduceMod, Nat.reduceDiv, Nat.reduceEqDiff, Nat.reduceLT, Nat.reduceLeDiff, Nat.reduceAdd, Nat.reduceSub, reduceIte, Nat.lt_irrefl, Nat.zero_ne_one, Nat.one_ne_zero, Nat.zero_add, List.nil_append, List.cons_append, Option.toList_some, Option.toList_none, forall_const, false_implies, true_implies, false_or, or_false, true_or, or_true, i_le, i_lt, i_eq, i_eq0, i_lt0, i_0le, i_0lt, i_le0, i_in1, i_cl, nI_add, pk_mul, pk_sub, i_div, i_rem, i_sh1, i_bit, i_or, i_and, i_andn, nt_le, nf_le, nt_lt, nf_lt, nt_eq, nf_eq, not_true_eq_false, and_self, and_false, false_and, eq_self, Bool.toNat_true, Bool.toNat_false, i_bool, i_bool1, Bool.false_eq_true, Bool.true_eq_false, reduceCtorEq, i_neg1, i_neg2, i_neg3, i_neg4, i_neg5, i_neg6, i_neg7, i_neg8, i_neg9, i_nega, i_negb, i_negc, i_max2, i_min2, wi_nil]
      repeat (
        first
        | refine s_X9_least_0 ?_
        | refine s_X9_least_5 ?_
        | refine s_X9_least_15 ?_
        | refine s_X9_least_18 ?_
        | refine s_X9_least_20 ?_
        | refine s_X9_least_24 ?_
        | refine s_X9_least_44 ?_
        | refine s_X9_least_57 ?_
        | refine s_X9_least_58 ?_
        | refine s_X9_least_75 ?_
        | refine s_X9_least_105 ?_
        simp (disch := omega) only [B_X9_least_0, wi_aload_n, wi_iload_n, wi_invokevirtual, cnt_8, B_X9_least_5, wi_if_eq, wi_iconst, wi_bipush, wi_invokestatic, B_X9_least_15, wi_if_ne, B_X9_least_18, wi_ireturn, B_X9_least_20, B_X9_least_24, wi_istore_n, wi_istore, B_X9_least_29, wi_iload, wi_icmp_ge, wi_getfield, fldv_8_21, fds_8_21, B_X9_least_44, wi_icmp_le, wi_goto, B_X9_least_57, B_X9_least_58, wi_iadd, B_X9_least_75, wi_iastore, wi_dup2, wi_iaload, wi_iinc, cnt_41, aTy_41, aLn_41, arr_41, B_X9_least_105, no0, no1, nz1, nz2, nz3, nz4, nz5, nz7, nz8, Classical.not_not, bz0, bz1, wi_nil, ld_0, ld_s, isIv_I, isLv_L, isRv_R, true_and, and_true, lset_0, lset_1, lset_s, avw_I, avw_L, avw_R, clr_cons, clr_nil, kst_0, kst_1, kstL_0, kstL_1, addk_I, pA_0, pA_s, pD_0, pD_s, wid_nil, wid_cons, rcv_c, putv_I, putv_L, List.length_cons, List.length_nil, List.set_cons_zero, List.set_cons_succ, not_false_eq_true, Nat.reduceMod, Nat.reduceDiv, Nat.reduceEqDiff, Nat.reduceLT, Nat.reduceLeDiff, Nat.reduceAdd, Nat.reduceSub, reduceIte, Nat.lt_irrefl, Nat.zero_ne_one, Nat.one_ne_zero, Nat.zero_add, List.nil_append, List.cons_append, Option.toList_some, Option.toList_none, forall_const, false_implies, true_implies, false_or, or_false, true_or, or_true, i_le, i_lt, i_eq, i_eq0, i_lt0, i_0le, i_0lt, i_le0, i_in1, i_cl, nI_add, pk_mul, pk_sub, i_div, i_rem, i_sh1, i_bit, i_or, i_and, i_andn, nt_le, nf_le, nt_lt, nf_lt, nt_eq, nf_eq, not_true_eq_false, and_self, and_false, false_and, eq_self, Bool.toNat_true, Bool.toNat_false, i_bool, i_bool1, Bool.false_eq_true, Bool.true_eq_false, reduceCtorEq, i_neg1, i_neg2, i_neg3, i_neg4, i_neg5, i_neg6, i_neg7, i_neg8, i_neg9, i_nega, i_negb, i_negc, i_max2, i_min2])
      refine c_mDeed hm hn5 ?_
      try simp (disch := omega) only [no0, no1, nz1, nz2, nz3, nz4, nz5, nz7, nz8, Classical.not_not, bz0, bz1, wi_nil, ld_0, ld_s, isIv_I, isLv_L, isRv_R, true_and, and_true, lset_0, lset_1, lset_s, avw_I, avw_L, avw_R, clr_cons, clr_nil, kst_0, kst_1, kstL_0, kstL_1, addk_I, pA_0, pA_s, pD_0, pD_s, wid_nil, wid_cons, rcv_c, putv_I, putv_L, List.length_cons, List.length_nil, List.set_cons_zero, List.set_cons_succ, not_false_eq_true, Nat.reduceMod, Nat.reduceDiv, Nat.reduceEqDiff, Nat.reduceLT, Nat.reduceLeDiff, Nat.reduceAdd, Nat.reduceSub, reduceIte, Nat.lt_irrefl, Nat.zero_ne_one, Nat.one_ne_zero, Nat.zero_add, List.nil_append, List.cons_append, Option.toList_some, Option.toList_none, forall_const, false_implies, true_implies, false_or, or_false, true_or, or_true, i_le, i_lt, i_eq, i_eq0, i_lt0, i_0le, i_0lt, i_le0, i_in1, i_cl, nI_add, pk_mul, pk_sub, i_div, i_rem, i_sh1, i_bit, i_or, i_and, i_andn, nt_le, nf_le, nt_lt, nf_lt, nt_eq, nf_eq, not_true_eq_false, and_self, and_false, false_and, eq_self, Bool.toNat_true, Bool.toNat_false, i_bool, i_bool1, Bool.false_eq_true, Bool.true_eq_false, reduceCtorEq, i_neg1, i_neg2, i_neg3, i_neg4, i_neg5, i_neg6, i_neg7, i_neg8, i_neg9, i_nega, i_negb, i_negc, i_max2, i_min2, hi, wi_nil]
      repeat (
        first
        | refine s_X9_least_0 ?_
        | refine s_X9_least_5 ?_
        | refine s_X9_least_15 ?_
        | refine s_X9_least_18 ?_
        | refine s_X9_least_20 ?_
        | refine s_X9_least_24 ?_
        | refine s_X9_least_44 ?_
        | refine s_X9_least_57 ?_
        | refine s_X9_least_58 ?_
        | refine s_X9_least_75 ?_
        | refine s_X9_least_105 ?_
        simp (disch := omega) only [B_X9_least_0, wi_aload_n, wi_iload_n, wi_invokevirtual, cnt_8, B_X9_least_5, wi_if_eq, wi_iconst, wi_bipush, wi_invokestatic, B_X9_least_15, wi_if_ne, B_X9_least_18, wi_ireturn, B_X9_least_20, B_X9_least_24, wi_istore_n, wi_istore, B_X9_least_29, wi_iload, wi_icmp_ge, wi_getfield, fldv_8_21, fds_8_21, B_X9_least_44, wi_icmp_le, wi_goto, B_X9_least_57, B_X9_least_58, wi_iadd, B_X9_least_75, wi_iastore, wi_dup2, wi_iaload, wi_iinc, cnt_41, aTy_41, aLn_41, arr_41, B_X9_least_105, no0, no1, nz1, nz2, nz3, nz4, nz5, nz7, nz8, Classical.not_not, bz0, bz1, wi_nil, ld_0, ld_s, isIv_I, isLv_L, isRv_R, true_and, and_true, lset_0, lset_1, lset_s, avw_I, avw_L, avw_R, clr_cons, clr_nil, kst_0, kst_1, kstL_0, kstL_1, addk_I, pA_0, pA_s, pD_0, pD_s, wid_nil, wid_cons, rcv_c, putv_I, putv_L, List.length_cons, List.length_nil, List.set_cons_zero, List.set_cons_succ, not_false_eq_true, Nat.reduceMod, Nat.reduceDiv, Nat.reduceEqDiff, Nat.reduceLT, Nat.reduceLeDiff, Nat.reduceAdd, Nat.reduceSub, reduceIte, Nat.lt_irrefl, Nat.zero_ne_one, Nat.one_ne_zero, Nat.zero_add, List.nil_append, List.cons_append, Option.toList_some, Option.toList_none, forall_const, false_implies, true_implies, false_or, or_false, true_or, or_true, i_le, i_lt, i_eq, i_eq0, i_lt0, i_0le, i_0lt, i_le0, i_in1, i_cl, nI_add, pk_mul, pk_sub, i_div, i_rem, i_sh1, i_bit, i_or, i_and, i_andn, nt_le, nf_le, nt_lt, nf_lt, nt_eq, nf_eq, not_true_eq_false, and_self, and_false, false_and, eq_self, Bool.toNat_true, Bool.toNat_false, i_bool, i_bool1, Bool.false_eq_true, Bool.true_eq_false, reduceCtorEq, i_neg1, i_neg2, i_neg3, i_neg4, i_neg5, i_neg6, i_neg7, i_neg8, i_neg9, i_nega, i_negb, i_negc, i_max2, i_min2, hi])
      refine c_in (inb_le (N := 30) (by decide)) ?_
      try simp (disch := omega) only [no0, no1, nz1, nz2, nz3, nz4, nz5, nz7, nz8, Classical.not_not, bz0, bz1, wi_nil, ld_0, ld_s, isIv_I, isLv_L, isRv_R, true_and, and_true, lset_0, lset_1, lset_s, avw_I, avw_L, avw_R, clr_cons, clr_nil, kst_0, kst_1, kstL_0, kstL_1, addk_I, pA_0, pA_s, pD_0, pD_s, wid_nil, wid_cons, rcv_c, putv_I, putv_L, List.length_cons, List.length_nil, List.set_cons_zero, List.set_cons_succ, not_false_eq_true, Nat.reduceMod, Nat.reduceDiv, Nat.reduceEqDiff, Nat.reduceLT, Nat.reduceLeDiff, Nat.reduceAdd, Nat.reduceSub, reduceIte, Nat.lt_irrefl, Nat.zero_ne_one, Nat.one_ne_zero, Nat.zero_add, List.nil_append, List.cons_append, Option.toList_some, Option.toList_none, forall_const, false_implies, true_implies, false_or, or_false, true_or, or_true, i_le, i_lt, i_eq, i_eq0, i_lt0, i_0le, i_0lt, i_le0, i_in1, i_cl, nI_add, pk_mul, pk_sub, i_div, i_rem, i_sh1, i_bit, i_or, i_and, i_andn, nt_le, nf_le, nt_lt, nf_lt, nt_eq, nf_eq, not_true_eq_false, and_self, and_false, false_and, eq_self, Bool.toNat_true, Bool.toNat_false, i_bool, i_bool1, Bool.false_eq_true, Bool.true_eq_false, reduceCtorEq, i_neg1, i_neg2, i_neg3, i_neg4, i_neg5, i_neg6, i_neg7, i_neg8, i_neg9, i_nega, i_negb, i_negc, i_max2, i_min2, hn, wi_nil]
      repeat (
        first
        | refine s_X9_least_0 ?_
        | refine s_X9_least_5 ?_
        | refine s_X9_least_15 ?_
        | refine s_X9_least_18 ?_
        | refine s_X9_least_20 ?_
        | refine s_X9_least_24 ?_
        | refine s_X9_least_44 ?_
        | refine s_X9_least_57 ?_
        | refine s_X9_least_58 ?_
        | refine s_X9_least_75 ?_
        | refine s_X9_least_105 ?_
        simp (disch := omega) only [B_X9_least_0, wi_aload_n, wi_iload_n, wi_invokevirtual, cnt_8, B_X9_least_5, wi_if_eq, wi_iconst, wi_bipush, wi_invokestatic, B_X9_least_15, wi_if_ne, B_X9_least_18, wi_ireturn, B_X9_least_20, B_X9_least_24, wi_istore_n, wi_istore, B_X9_least_29, wi_iload, wi_icmp_ge, wi_getfield, fldv_8_21, fds_8_21, B_X9_least_44, wi_icmp_le, wi_goto, B_X9_least_57, B_X9_least_58, wi_iadd, B_X9_least_75, wi_iastore, wi_dup2, wi_iaload, wi_iinc, cnt_41, aTy_41, aLn_41, arr_41, B_X9_least_105, no0, no1, nz1, nz2, nz3, nz4, nz5, nz7, nz8, Classical.not_not, bz0, bz1, wi_nil, ld_0, ld_s, isIv_I, isLv_L, isRv_R, true_and, and_true, lset_0, lset_1, lset_s, avw_I, avw_L, avw_R, clr_cons, clr_nil, kst_0, kst_1, kstL_0, kstL_1, addk_I, pA_0, pA_s, pD_0, pD_s, wid_nil, wid_cons, rcv_c, putv_I, putv_L, List.length_cons, List.length_nil, List.set_cons_zero, List.set_cons_succ, not_false_eq_true, Nat.reduceMod, Nat.reduceDiv, Nat.reduceEqDiff, Nat.reduceLT, Nat.reduceLeDiff, Nat.reduceAdd, Nat.reduceSub, reduceIte, Nat.lt_irrefl, Nat.zero_ne_one, Nat.one_ne_zero, Nat.zero_add, List.nil_append, List.cons_append, Option.toList_some, Option.toList_none, forall_const, false_implies, true_implies, false_or, or_false, true_or, or_true, i_le, i_lt, i_eq, i_eq0, i_lt0, i_0le, i_0lt, i_le0, i_in1, i_cl, nI_add, pk_mul, pk_sub, i_div, i_rem, i_sh1, i_bit, i_or, i_and, i_andn, nt_le, nf_le, nt_lt, nf_lt, nt_eq, nf_eq, not_true_eq_false, and_self, and_false, false_and, eq_self, Bool.toNat_true, Bool.toNat_false, i_bool, i_bool1, Bool.false_eq_true, Bool.true_eq_false, reduceCtorEq, i_neg1, i_neg2, i_neg3, i_neg4, i_neg5, i_neg6, i_neg7, i_neg8, i_neg9, i_nega, i_negb, i_negc, i_max2, i_min2, hn])
      refine c_copyNow hm hn5 (fun S2 y2 f2 => ?_)
      try simp (disch := omega) only [no0, no1, nz1, nz2, nz3, nz4, nz5, nz7, nz8, Classical.not_not, bz0, bz1, wi_nil, ld_0, ld_s, isIv_I, isLv_L, isRv_R, true_and, and_true, lset_0, lset_1, lset_s, avw_I, avw_L, avw_R, clr_cons, clr_nil, kst_0, kst_1, kstL_0, kstL_1, addk_I, pA_0, pA_s, pD_0, pD_s, wid_nil, wid_cons, rcv_c, putv_I, putv_L, List.length_cons, List.length_nil, List.set_cons_zero, List.set_cons_succ, not_false_eq_true, Nat.reduceMod, Nat.reduceDiv, Nat.reduceEqDiff, Nat.reduceLT, Nat.reduceLeDiff, Nat.reduceAdd, Nat.reduceSub, reduceIte, Nat.lt_irrefl, Nat.zero_ne_one, Nat.one_ne_zero, Nat.zero_add, List.nil_append, List.cons_append, Option.toList_some, Option.toList_none, forall_const, false_implies, true_implies, false_or, or_false, true_or, or_true, i_le, i_lt, i_eq, i_eq0, i_lt0, i_0le, i_0lt, i_le0, i_in1, i_cl, nI_add, pk_mul, pk_sub, i_div, i_rem, i_sh1, i_bit, i_or, i_and, i_andn, nt_le, nf_le, nt_lt, nf_lt, nt_eq, nf_eq, not_true_eq_false, and_self, and_false, false_and, eq_self, Bool.toNat_true, Bool.toNat_false, i_bool, i_bool1, Bool.false_eq_true, Bool.true_eq_false, reduceCtorEq, i_neg1, i_neg2, i_neg3, i_neg4, i_neg5, i_neg6, i_neg7, i_neg8, i_neg9, i_nega, i_negb, i_negc, i_max2, i_min2, wi_nil]
      repeat (
        first
        | refine s_X9_least_0 ?_
        | refine s_X9_least_5 ?_
        | refine s_X9_least_15 ?_
        | refine s_X9_least_18 ?_
        | refine s_X9_least_20 ?_
        | refine s_X9_least_24 ?_
        | refine s_X9_least_44 ?_
        | refine s_X9_least_57 ?_
        | refine s_X9_least_58 ?_
        | refine s_X9_least_75 ?_
        | refine s_X9_least_105 ?_
        simp (disch := omega) only [B_X9_least_0, wi_aload_n, wi_iload_n, wi_invokevirtual, cnt_8, B_X9_least_5, wi_if_eq, wi_iconst, wi_bipush, wi_invokestatic, B_X9_least_15, wi_if_ne, B_X9_least_18, wi_ireturn, B_X9_least_20, B_X9_least_24, wi_istore_n, wi_istore, B_X9_least_29, wi_iload, wi_icmp_ge, wi_getfield, fldv_8_21, fds_8_21, B_X9_least_44, wi_icmp_le, wi_goto, B_X9_least_57, B_X9_least_58, wi_iadd, B_X9_least_75, wi_iastore, wi_dup2, wi_iaload, wi_iinc, cnt_41, aTy_41, aLn_41, arr_41, B_X9_least_105, no0, no1, nz1, nz2, nz3, nz4, nz5, nz7, nz8, Classical.not_not, bz0, bz1, wi_nil, ld_0, ld_s, isIv_I, isLv_L, isRv_R, true_and, and_true, lset_0, lset_1, lset_s, avw_I, avw_L, avw_R, clr_cons, clr_nil, kst_0, kst_1, kstL_0, kstL_1, addk_I, pA_0, pA_s, pD_0, pD_s, wid_nil, wid_cons, rcv_c, putv_I, putv_L, List.length_cons, List.length_nil, List.set_cons_zero, List.set_cons_succ, not_false_eq_true, Nat.reduceMod, Nat.reduceDiv, Nat.reduceEqDiff, Nat.reduceLT, Nat.reduceLeDiff, Nat.reduceAdd, Nat.reduceSub, reduceIte, Nat.lt_irrefl, Nat.zero_ne_one, Nat.one_ne_zero, Nat.zero_add, List.nil_append, List.cons_append, Option.toList_some, Option.toList_none, forall_const, false_implies, true_implies, false_or, or_false, true_or, or_true, i_le, i_lt, i_eq, i_eq0, i_lt0, i_0le, i_0lt, i_le0, i_in1, i_cl, nI_add, pk_mul, pk_sub, i_div, i_rem, i_sh1, i_bit, i_or, i_and, i_andn, nt_le, nf_le, nt_lt, nf_lt, nt_eq, nf_eq, not_true_eq_false, and_self, and_false, false_and, eq_self, Bool.toNat_true, Bool.toNat_false, i_bool, i_bool1, Bool.false_eq_true, Bool.true_eq_false, reduceCtorEq, i_neg1, i_neg2, i_neg3, i_neg4, i_neg5, i_neg6, i_neg7, i_neg8, i_neg9, i_nega, i_negb, i_negc, i_max2, i_min2])
      refine l_mleast (S0 := S2) (R := lsR Y i n 0 (Y 2 i) 0) (by omega) hi2 hok (fun U fU => ?_) n 0 (Y 2 i) 0 S2 (by omega) hb.2.2.1 (by omega) rfl (by rw [lsZ_0]; exact y2) FA.refl
      exact pm (rr_fs h ((fs_fa f2).trans (fs_fa fU)))
-- sets of deeds not given up
def subB (Y : Nat → Nat → Nat) (s : Nat) : Bool := decide (s &&& (31 - yop Y) = 0)
theorem subB_iff (ho : YOk B Y) {s : Nat} (hs : s < 32) : subB Y s = true ↔ s < 2 ^ Y 6 0 ∧ s &&& Y 6 4 = 0 := by
  have hn5 := ho.1.1
  have hyl := yop_lt (Y := Y) hn5
  unfold subB
  rw [decide_eq_true_eq]
  have bit : ∀ t, t < 5 → (31 - yop Y).testBit t = !(yop Y).testBit t := fun t ht => n31_bit hyl ht
  refine ⟨fun h => ⟨?_, ?_⟩, fun h => ?_⟩
  · apply Nat.lt_pow_two_of_testBit
    intro t ht
    cases hb : s.testBit t
    · rfl
    · have t5 : t < 5 := by
        rcases Nat.lt_or_ge t 5 with a | a
        · exact a
        · rw [hi_bit hs a] at hb; cases hb
      have := and0_bit h hb
      rw [bit t t5, yop_bit ho t5] at this
      have e : decide (t < Y 6 0) = false := decide_eq_false (by omega)
      rw [e] at this
      cases this
  · apply Nat.eq_of_testBit_eq
    intro t
    rw [Nat.testBit_and, Nat.zero_testBit]
    cases hb : s.testBit t
    · rfl
    · have t5 : t < 5 := by
        rcases Nat.lt_or_ge t 5 with a | a
        · exact a
        · rw [hi_bit hs a] at hb; cases hb
      have := and0_bit h hb
      rw [bit t t5, yop_bit ho t5] at this
      cases hg : (Y 6 4).testBit t
      · rfl
      · rw [hg] at this; simp at this
  · apply Nat.eq_of_testBit_eq
    intro t
    rw [Nat.testBit_and, Nat.zero_testBit]
    cases hb : s.testBit t
    · rfl
    · have t5 : t < 5 := by
        rcases Nat.lt_or_ge t 5 with a | a
        · exact a
        · rw [hi_bit hs a] at hb; cases hb
      have hg := and0_bit h.2 hb
      have hn : t < Y 6 0 := by
        rcases Nat.lt_or_ge t (Y 6 0) with a | a
        · exact a
        · rw [Nat.testBit_lt_two_pow (Nat.lt_of_lt_of_le h.1 (Nat.pow_le_pow_right (by decide) a))] at hb
          cases hb
      rw [bit t t5, yop_bit ho t5, hg, decide_eq_true hn]
      rfl
end
