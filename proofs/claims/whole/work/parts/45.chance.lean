-- PART 45: fractions, mid, odds
section
variable {d B : Nat} {S T : MS} {Y Y0 : Nat → Nat → Nat} {P : Option AV → MS → Prop}
theorem l_fraction {u l : Nat} (hu : u < 2 ^ 60) (hl0 : 0 < l) (hl : l < 2 ^ 60) (q : P (some (aI (nI 1))) (sL (sL S 8 0 3 (lN (u / Nat.gcd u l))) 8 0 4 (lN (l / Nat.gcd u l)))) : ∀ (m a b : Nat), b < m → a < 2 ^ 60 → b < 2 ^ 60 → Nat.gcd a b = Nat.gcd u l → wpX d mX9_fraction 6 [aR 8 0, aL (lN u), aU, aL (lN l), aU, aL (lN a), aU, aL (lN b), aU, aU, aU] [] S P := by
  have hg : 0 < Nat.gcd u l := Nat.gcd_pos_of_pos_right u hl0
  intro m
  induction m with
  | zero => intro a b h; exact absurd h (Nat.not_lt_zero b)
  | succ m ih =>
    intro a b hb ha hb2 hgc
    rcases Nat.eq_zero_or_pos b with e | e
    · subst e
      rw [Nat.gcd_zero_right] at hgc
      have hne : (lN a = 0) = False := eq_false (lN_ne0 (by omega) (by omega))
      rw [← hgc] at q
      have d1 := pk_lDiv (a := u) (b := a) (by omega) (by omega) (by omega)
      have d2 := pk_lDiv (a := l) (b := a) (by omega) (by omega) (by omega)
      try simp (disch := omega) only [no0, no1, nz1, nz2, nz3, nz4, nz5, nz7, nz8, Classical.not_not, bz0, bz1, wi_nil, ld_0, ld_s, isIv_I, isLv_L, isRv_R, true_and, and_true, lset_0, lset_1, lset_s, avw_I, avw_L, avw_R, clr_cons, clr_nil, kst_0, kst_1, kstL_0, kstL_1, addk_I, pA_0, pA_s, pD_0, pD_s, wid_nil, wid_cons, rcv_c, putv_I, putv_L, List.length_cons, List.length_nil, List.set_cons_zero, List.set_cons_succ, not_false_eq_true, Nat.reduceMod, Nat.reduceDiv, Nat.reduceEqDiff, Nat.reduceLT, Nat.reduceLeDiff, Nat.reduceAdd, Nat.reduceSub, reduceIte, Nat.lt_irrefl, Nat.zero_ne_one, Nat.one_ne_zero, Nat.zero_add, List.nil_append, List.cons_append, Option.toList_some, Option.toList_none, forall_const, false_implies, true_implies, false_or, or_false, true_or, or_true, i_le, i_lt, i_eq, i_eq0, i_lt0, i_0le, i_0lt, i_le0, i_in1, i_cl, nI_add, pk_mul, pk_sub, i_div, i_rem, i_sh1, i_bit, i_or, i_and, i_andn, nt_le, nf_le, nt_lt, nf_lt, nt_eq, nf_eq, not_true_eq_false, and_self, and_false, false_and, eq_self, Bool.toNat_true, Bool.toNat_false, i_bool, i_bool1, Bool.false_eq_true, Bool.true_eq_false, reduceCtorEq, i_neg1, i_neg2, i_neg3, i_neg4, i_neg5, i_neg6, i_neg7, i_neg8, i_neg9, i_nega, i_negb, i_negc, i_max2, i_min2, lg_cmp_eq, hne, d1, d2, wi_nil]
      repeat (
        first
        | refine s_X9_fraction_0 ?_
        | refine s_X9_fraction_6 ?_
        | refine s_X9_fraction_31 ?_
        simp (disch := omega) only [B_X9_fraction_0, wi_lload_n, wi_lstore, B_X9_fraction_6, wi_lload, wi_lconst, wi_lcmp, wi_if_eq, wi_lrem, wi_goto, B_X9_fraction_31, wi_aload_n, wi_ldiv, wi_putfield, pOk_8_3, cnt_8, pOk_8_4, wi_iconst, wi_ireturn, no0, no1, nz1, nz2, nz3, nz4, nz5, nz7, nz8, Classical.not_not, bz0, bz1, wi_nil, ld_0, ld_s, isIv_I, isLv_L, isRv_R, true_and, and_true, lset_0, lset_1, lset_s, avw_I, avw_L, avw_R, clr_cons, clr_nil, kst_0, kst_1, kstL_0, kstL_1, addk_I, pA_0, pA_s, pD_0, pD_s, wid_nil, wid_cons, rcv_c, putv_I, putv_L, List.length_cons, List.length_nil, List.set_cons_zero, List.set_cons_succ, not_false_eq_true, Nat.reduceMod, Nat.reduceDiv, Nat.reduceEqDiff, Nat.reduceLT, Nat.reduceLeDiff, Nat.reduceAdd, Nat.reduceSub, reduceIte, Nat.lt_irrefl, Nat.zero_ne_one, Nat.one_ne_zero, Nat.zero_add, List.nil_append, List.cons_append, Option.toList_some, Option.toList_none, forall_const, false_implies, true_implies, false_or, or_false, true_or, or_true, i_le, i_lt, i_eq, i_eq0, i_lt0, i_0le, i_0lt, i_le0, i_in1, i_cl, nI_add, pk_mul, pk_sub, i_div, i_rem, i_sh1, i_bit, i_or, i_and, i_andn, nt_le, nf_le, nt_lt, nf_lt, nt_eq, nf_eq, not_true_eq_false, and_self, and_false, false_and, eq_self, Bool.toNat_true, Bool.toNat_false, i_bool, i_bool1, Bool.false_eq_true, Bool.true_eq_false, reduceCtorEq, i_neg1, i_neg2, i_neg3, i_neg4, i_neg5, i_neg6, i_neg7, i_neg8, i_neg9, i_nega, i_negb, i_negc, i_max2, i_min2, lg_cmp_eq, hne, d1, d2])
      exact q
    · have hm := Nat.mod_lt a e
      have hne : (lN b = 0) = False := eq_false (lN_ne0 e (by omega))
      have hne2 : (lN b = lN 0) = False := eq_false (fun h => by rw [pk_lEQ (by omega) (by decide)] at h; omega)
      have hr := pk_lRem (a := a) (b := b) (by omega) e (by omega)
      refine s_X9_fraction_6 ?_
      simp (disch := omega) only [B_X9_fraction_6, wi_lload, wi_lconst, wi_lcmp, wi_if_eq, wi_lrem, wi_lstore, wi_goto, no0, no1, nz1, nz2, nz3, nz4, nz5, nz7, nz8, Classical.not_not, bz0, bz1, wi_nil, ld_0, ld_s, isIv_I, isLv_L, isRv_R, true_and, and_true, lset_0, lset_1, lset_s, avw_I, avw_L, avw_R, clr_cons, clr_nil, kst_0, kst_1, kstL_0, kstL_1, addk_I, pA_0, pA_s, pD_0, pD_s, wid_nil, wid_cons, rcv_c, putv_I, putv_L, List.length_cons, List.length_nil, List.set_cons_zero, List.set_cons_succ, not_false_eq_true, Nat.reduceMod, Nat.reduceDiv, Nat.reduceEqDiff, Nat.reduceLT, Nat.reduceLeDiff, Nat.reduceAdd, Nat.reduceSub, reduceIte, Nat.lt_irrefl, Nat.zero_ne_one, Nat.one_ne_zero, Nat.zero_add, List.nil_append, List.cons_append, Option.toList_some, Option.toList_none, forall_const, false_implies, true_implies, false_or, or_false, true_or, or_true, i_le, i_lt, i_eq, i_eq0, i_lt0, i_0le, i_0lt, i_le0, i_in1, i_cl, nI_add, pk_mul, pk_sub, i_div, i_rem, i_sh1, i_bit, i_or, i_and, i_andn, nt_le, nf_le, nt_lt, nf_lt, nt_eq, nf_eq, not_true_eq_false, and_self, and_false, false_and, eq_self, Bool.toNat_true, Bool.toNat_false, i_bool, i_bool1, Bool.false_eq_true, Bool.true_eq_false, reduceCtorEq, i_neg1, i_neg2, i_neg3, i_neg4, i_neg5, i_neg6, i_neg7, i_neg8, i_neg9, i_nega, i_negb, i_negc, i_max2, i_min2, lg_cmp_eq, hne, hne2, hr]
      exact ih b (a % b) (by omega) (by omega) (by omega) (by rw [gcd_step]; exact hgc)
theorem c_fraction {u l : Nat} (hu : u < 2 ^ 40) (hl0 : 0 < l) (hl : l < 2 ^ 40) (q : P (some (aI (nI 1))) (sL (sL S 8 0 3 (lN (u / Nat.gcd u l))) 8 0 4 (lN (l / Nat.gcd u l)))) : wpM (d + 1) mX9_fraction [aR 8 0, aL (lN u), aL (lN l)] S P := by
  refine x_entry (ls2 := [aR 8 0, aL (lN u), aU, aL (lN l), aU, aU, aU, aU, aU, aU, aU]) (Nat.le_of_ble_eq_true rfl) pl_9 rfl (Nat.le_of_ble_eq_true rfl) ?_
  try simp (disch := omega) only [no0, no1, nz1, nz2, nz3, nz4, nz5, nz7, nz8, Classical.not_not, bz0, bz1, wi_nil, ld_0, ld_s, isIv_I, isLv_L, isRv_R, true_and, and_true, lset_0, lset_1, lset_s, avw_I, avw_L, avw_R, clr_cons, clr_nil, kst_0, kst_1, kstL_0, kstL_1, addk_I, pA_0, pA_s, pD_0, pD_s, wid_nil, wid_cons, rcv_c, putv_I, putv_L, List.length_cons, List.length_nil, List.set_cons_zero, List.set_cons_succ, not_false_eq_true, Nat.reduceMod, Nat.reduceDiv, Nat.reduceEqDiff, Nat.reduceLT, Nat.reduceLeDiff, Nat.reduceAdd, Nat.reduceSub, reduceIte, Nat.lt_irrefl, Nat.zero_ne_one, Nat.one_ne_zero, Nat.zero_add, List.nil_append, List.cons_append, Option.toList_some, Option.toList_none, forall_const, false_implies, true_implies, false_or, or_false, true_or, or_true, i_le, i_lt, i_eq, i_eq0, i_lt0, i_0le, i_0lt, i_le0, i_in1, i_cl, nI_add, pk_mul, pk_sub, i_div, i_rem, i_sh1, i_bit, i_or, i_and, i_andn, nt_le, nf_le, nt_lt, nf_lt, nt_eq, nf_eq, not_true_eq_false, and_self, and_false, false_and, eq_self, Bool.toNat_true, Bool.toNat_false, i_bool, i_bool1, Bool.false_eq_true, Bool.true_eq_false, reduceCtorEq, i_neg1, i_neg2, i_neg3, i_neg4, i_neg5, i_neg6, i_neg7, i_neg8, i_neg9, i_nega, i_negb, i_negc, i_max2, i_min2, wi_nil]
  repeat (
    first
    | refine s_X9_fraction_0 ?_
    | refine s_X9_fraction_31 ?_
    simp (disch := omega) only [B_X9_fraction_0, wi_lload_n, wi_lstore, B_X9_fraction_6, wi_lload, wi_lconst, wi_lcmp, wi_if_eq, wi_lrem, wi_goto, B_X9_fraction_31, wi_aload_n, wi_ldiv, wi_putfield, pOk_8_3, cnt_8, pOk_8_4, wi_iconst, wi_ireturn, no0, no1, nz1, nz2, nz3, nz4, nz5, nz7, nz8, Classical.not_not, bz0, bz1, wi_nil, ld_0, ld_s, isIv_I, isLv_L, isRv_R, true_and, and_true, lset_0, lset_1, lset_s, avw_I, avw_L, avw_R, clr_cons, clr_nil, kst_0, kst_1, kstL_0, kstL_1, addk_I, pA_0, pA_s, pD_0, pD_s, wid_nil, wid_cons, rcv_c, putv_I, putv_L, List.length_cons, List.length_nil, List.set_cons_zero, List.set_cons_succ, not_false_eq_true, Nat.reduceMod, Nat.reduceDiv, Nat.reduceEqDiff, Nat.reduceLT, Nat.reduceLeDiff, Nat.reduceAdd, Nat.reduceSub, reduceIte, Nat.lt_irrefl, Nat.zero_ne_one, Nat.one_ne_zero, Nat.zero_add, List.nil_append, List.cons_append, Option.toList_some, Option.toList_none, forall_const, false_implies, true_implies, false_or, or_false, true_or, or_true, i_le, i_lt, i_eq, i_eq0, i_lt0, i_0le, i_0lt, i_le0, i_in1, i_cl, nI_add, pk_mul, pk_sub, i_div, i_rem, i_sh1, i_bit, i_or, i_and, i_andn, nt_le, nf_le, nt_lt, nf_lt, nt_eq, nf_eq, not_true_eq_false, and_self, and_false, false_and, eq_self, Bool.toNat_true, Bool.toNat_false, i_bool, i_bool1, Bool.false_eq_true, Bool.true_eq_false, reduceCtorEq, i_neg1, i_neg2, i_neg3, i_neg4, i_neg5, i_neg6, i_neg7, i_neg8, i_neg9, i_nega, i_negb, i_negc, i_max2, i_min2])
  exact l_fraction (by omega) hl0 (by omega) q (l + 1) u l (by omega) (by omega) (by omega) rfl
theorem r_share {u l : Int64} (h : Rr S) (f : Fs (sL (sL S 4 0 0 u) 4 0 1 l) T) : Rr (sL (sL T 8 0 3 u) 8 0 4 l) := by
  refine rr_6 h ((((fr_sL rfl).trans (fr_sL rfl)).trans f.pn).trans ((fr_sL rfl).trans (fr_sL rfl))) ⟨?_, ?_⟩
  · show gL T 4 0 0 = u
    rw [f.2.1 4 0 0 rfl]
    rfl
  · show gL T 4 0 1 = l
    rw [f.2.1 4 0 1 rfl]
    rfl
def mdf (Y : Nat → Nat → Nat) (s p i : Nat) : Nat := if (Y 6 4).testBit i then 0 else (if s.testBit i then p else 12) * shr (Y 0 i) (Y 2 i) + (12 - (if s.testBit i then p else 12)) * grw (Y 0 i) (Y 2 i)
theorem mdf_le (ho : YOk B Y) {s p i : Nat} (hp : p ≤ 12) (hi : i < Y 6 0) : mdf Y s p i ≤ 216 ∧ (if s.testBit i then p else 12) * shr (Y 0 i) (Y 2 i) ≤ 108 ∧ (12 - (if s.testBit i then p else 12)) * grw (Y 0 i) (Y 2 i) ≤ 108 := by
  have hb := ho.2 i hi
  have h1 := shr_le (k := Y 0 i) (h := Y 2 i)
  have h2 := grw_le (k := Y 0 i) (h := Y 2 i)
  have a1 : (if s.testBit i then p else 12) * shr (Y 0 i) (Y 2 i) ≤ 12 * 9 := Nat.mul_le_mul (by split <;> omega) (by omega)
  have a2 : (12 - (if s.testBit i then p else 12)) * grw (Y 0 i) (Y 2 i) ≤ 12 * 9 := Nat.mul_le_mul (by omega) h2
  refine ⟨?_, a1, a2⟩
  unfold mdf
  split
  · omega
  · omega
theorem md_le (ho : YOk B Y) {s p : Nat} (hp : p ≤ 12) : ∀ i, i ≤ Y 6 0 → fb_sm (mdf Y s p) i ≤ 216 * i := by
  intro i
  induction i with
  | zero => intro _; exact Nat.le_refl 0
  | succ i ih =>
    intro h
    have := ih (by omega)
    have h2 := (mdf_le ho (s := s) hp (show i < Y 6 0 by omega)).1
    rw [fb_sm_succ]
    omega
theorem l_xmid {s p : Nat} (hp : p ≤ 12) (hs : s < 32) (hy : YrX S 1 Y) (ho : YOk 40 Y) (q : wpX (d + 9) mX8_mid 150 [aR 7 0, aU, aU, aL (lN (fb_sm (mdf Y s p) (Y 6 0))), aU, aU, aU] [] S P) : ∀ (m i : Nat), i + m = Y 6 0 → wpX (d + 9) mX8_mid 39 [aR 7 0, aI (nI p), aI (nI s), aL (lN (fb_sm (mdf Y s p) i)), aU, aI (nI i), aU] [] S P := by
  have hn5 := ho.1.1
  intro m
  induction m with
  | zero =>
    intro i hi
    have e : i = Y 6 0 := by omega
    subst e
    refine s_X8_mid_39 ?_
    simp (disch := omega) only [B_X8_mid_39, wi_iload, wi_aload_n, wi_getfield, fldv_7_3, fds_7_3, cnt_7, fldv_6_7, fds_6_7, cnt_6, wi_icmp_ge, wi_invokevirtual, no0, no1, nz1, nz2, nz3, nz4, nz5, nz7, nz8, Classical.not_not, bz0, bz1, wi_nil, ld_0, ld_s, isIv_I, isLv_L, isRv_R, true_and, and_true, lset_0, lset_1, lset_s, avw_I, avw_L, avw_R, clr_cons, clr_nil, kst_0, kst_1, kstL_0, kstL_1, addk_I, pA_0, pA_s, pD_0, pD_s, wid_nil, wid_cons, rcv_c, putv_I, putv_L, List.length_cons, List.length_nil, List.set_cons_zero, List.set_cons_succ, not_false_eq_true, Nat.reduceMod, Nat.reduceDiv, Nat.reduceEqDiff, Nat.reduceLT, Nat.reduceLeDiff, Nat.reduceAdd, Nat.reduceSub, reduceIte, Nat.lt_irrefl, Nat.zero_ne_one, Nat.one_ne_zero, Nat.zero_add, List.nil_append, List.cons_append, Option.toList_some, Option.toList_none, forall_const, false_implies, true_implies, false_or, or_false, true_or, or_true, i_le, i_lt, i_eq, i_eq0, i_lt0, i_0le, i_0lt, i_le0, i_in1, i_cl, nI_add, pk_mul, pk_sub, i_div, i_rem, i_sh1, i_bit, i_or, i_and, i_andn, nt_le, nf_le, nt_lt, nf_lt, nt_eq, nf_eq, not_true_eq_false, and_self, and_false, false_and, eq_self, Bool.toNat_true, Bool.toNat_false, i_bool, i_bool1, Bool.false_eq_true, Bool.true_eq_false, reduceCtorEq, i_neg1, i_neg2, i_neg3, i_neg4, i_neg5, i_neg6, i_neg7, i_neg8, i_neg9, i_nega, i_negb, i_negc, i_max2, i_min2, (y_n hy)]
    exact q
  | succ m ih =>
    intro i hi
    have hb := ho.2 i (by omega)
    obtain ⟨a1, a2, a3⟩ := mdf_le ho (s := s) hp (show i < Y 6 0 by omega)
    have hsm := md_le ho (s := s) hp i (by omega)
    have hnx := ih (i + 1) (by omega)
    rw [fb_sm_succ] at hnx
    have em : mdf Y s p i = if (Y 6 4).testBit i then 0 else (if s.testBit i then p else 12) * shr (Y 0 i) (Y 2 i) + (12 - (if s.testBit i then p else 12)) * grw (Y 0 i) (Y 2 i) := rfl
    have hsl := shr_le (k := Y 0 i) (h := Y 2 i)
    have hgl := grw_le (k := Y 0 i) (h := Y 2 i)
    refine s_X8_mid_39 ?_
    simp (disch := omega) only [B_X8_mid_39, wi_iload, wi_aload_n, wi_getfield, fldv_7_3, fds_7_3, cnt_7, fldv_6_7, fds_6_7, cnt_6, wi_icmp_ge, wi_invokevirtual, no0, no1, nz1, nz2, nz3, nz4, nz5, nz7, nz8, Classical.not_not, bz0, bz1, wi_nil, ld_0, ld_s, isIv_I, isLv_L, isRv_R, true_and, and_true, lset_0, lset_1, lset_s, avw_I, avw_L, avw_R, clr_cons, clr_nil, kst_0, kst_1, kstL_0, kstL_1, addk_I, pA_0, pA_s, pD_0, pD_s, wid_nil, wid_cons, rcv_c, putv_I, putv_L, List.length_cons, List.length_nil, List.set_cons_zero, List.set_cons_succ, not_false_eq_true, Nat.reduceMod, Nat.reduceDiv, Nat.reduceEqDiff, Nat.reduceLT, Nat.reduceLeDiff, Nat.reduceAdd, Nat.reduceSub, reduceIte, Nat.lt_irrefl, Nat.zero_ne_one, Nat.one_ne_zero, Nat.zero_add, List.nil_append, List.cons_append, Option.toList_some, Option.toList_none, forall_const, false_implies, true_implies, false_or, or_false, true_or, or_true, i_le, i_lt, i_eq, i_eq0, i_lt0, i_0le, i_0lt, i_le0, i_in1, i_cl, nI_add, pk_mul, pk_sub, i_div, i_rem, i_sh1, i_bit, i_or, i_and, i_andn, nt_le, nf_le, nt_lt, nf_lt, nt_eq, nf_eq, not_true_eq_false, and_self, and_false, false_and, eq_self, Bool.toNat_true, Bool.toNat_false, i_bool, i_bool1, Bool.false_eq_true, Bool.true_eq_false, reduceCtorEq, i_neg1, i_neg2, i_neg3, i_neg4, i_neg5, i_neg6, i_neg7, i_neg8, i_neg9, i_nega, i_negb, i_negc, i_max2, i_min2, (y_n hy)]
    refine c_isGiven (by decide) hy ho (by omega) ?_
    cases hg : (Y 6 4).testBit i
    · rw [hg, if_neg (by decide)] at em
      have key : ∀ c, c = (if s.testBit i then p else 12) → wpX (d + 9) mX8_mid 79 [aR 7 0, aI (nI p), aI (nI s), aL (lN (fb_sm (mdf Y s p) i)), aU, aI (nI i), aU] [aI (nI c)] S P := by
        intro c hc
        rw [← hc] at em a2 a3
        rw [em, ← Nat.add_assoc] at hnx
        have hc12 : c ≤ 12 := by rw [hc]; split <;> omega
        try simp (disch := omega) only [no0, no1, nz1, nz2, nz3, nz4, nz5, nz7, nz8, Classical.not_not, bz0, bz1, wi_nil, ld_0, ld_s, isIv_I, isLv_L, isRv_R, true_and, and_true, lset_0, lset_1, lset_s, avw_I, avw_L, avw_R, clr_cons, clr_nil, kst_0, kst_1, kstL_0, kstL_1, addk_I, pA_0, pA_s, pD_0, pD_s, wid_nil, wid_cons, rcv_c, putv_I, putv_L, List.length_cons, List.length_nil, List.set_cons_zero, List.set_cons_succ, not_false_eq_true, Nat.reduceMod, Nat.reduceDiv, Nat.reduceEqDiff, Nat.reduceLT, Nat.reduceLeDiff, Nat.reduceAdd, Nat.reduceSub, reduceIte, Nat.lt_irrefl, Nat.zero_ne_one, Nat.one_ne_zero, Nat.zero_add, List.nil_append, List.cons_append, Option.toList_some, Option.toList_none, forall_const, false_implies, true_implies, false_or, or_false, true_or, or_true, i_le, i_lt, i_eq, i_eq0, i_lt0, i_0le, i_0lt, i_le0, i_in1, i_cl, nI_add, pk_mul, pk_sub, i_div, i_rem, i_sh1, i_bit, i_or, i_and, i_andn, nt_le, nf_le, nt_lt, nf_lt, nt_eq, nf_eq, not_true_eq_false, and_self, and_false, false_and, eq_self, Bool.toNat_true, Bool.toNat_false, i_bool, i_bool1, Bool.false_eq_true, Bool.true_eq_false, reduceCtorEq, i_neg1, i_neg2, i_neg3, i_neg4, i_neg5, i_neg6, i_neg7, i_neg8, i_neg9, i_nega, i_negb, i_negc, i_max2, i_min2, (y_kind hy), (y_hab hy), wi_nil]
        repeat (
          first
          | refine s_X8_mid_0 ?_
          | refine s_X8_mid_10 ?_
          | refine s_X8_mid_12 ?_
          | refine s_X8_mid_25 ?_
          | refine s_X8_mid_33 ?_
          | refine s_X8_mid_60 ?_
          | refine s_X8_mid_77 ?_
          | refine s_X8_mid_79 ?_
          | refine s_X8_mid_107 ?_
          | refine s_X8_mid_140 ?_
          | refine s_X8_mid_144 ?_
          | refine s_X8_mid_150 ?_
          | refine s_X8_mid_161 ?_
          simp (disch := omega) only [B_X8_mid_0, wi_iload_n, wi_if_lt, wi_bipush, wi_icmp_le, B_X8_mid_10, wi_iconst, wi_ireturn, B_X8_mid_12, wi_aload_n, wi_getfield, fldv_7_3, fds_7_3, cnt_7, fldv_6_7, fds_6_7, cnt_6, wi_if_ne, B_X8_mid_25, wi_invokevirtual, B_X8_mid_33, wi_istore_n, wi_lconst, wi_lstore_n, wi_istore, B_X8_mid_39, wi_iload, wi_icmp_ge, B_X8_mid_60, wi_ishr, wi_iand, wi_icmp_ne, wi_goto, B_X8_mid_77, B_X8_mid_79, wi_lload_n, fldv_6_0, fds_6_0, wi_iaload, fldv_6_2, fds_6_2, wi_invokestatic, cnt_20, aTy_20, aLn_20, arr_20, cnt_22, aTy_22, aLn_22, arr_22, B_X8_mid_107, wi_imul, wi_i2l, wi_ladd, wi_isub, B_X8_mid_140, B_X8_mid_144, wi_iinc, B_X8_mid_150, fldv_7_8, fds_7_8, wi_ldc2_w, cnt_4, B_X8_mid_161, no0, no1, nz1, nz2, nz3, nz4, nz5, nz7, nz8, Classical.not_not, bz0, bz1, wi_nil, ld_0, ld_s, isIv_I, isLv_L, isRv_R, true_and, and_true, lset_0, lset_1, lset_s, avw_I, avw_L, avw_R, clr_cons, clr_nil, kst_0, kst_1, kstL_0, kstL_1, addk_I, pA_0, pA_s, pD_0, pD_s, wid_nil, wid_cons, rcv_c, putv_I, putv_L, List.length_cons, List.length_nil, List.set_cons_zero, List.set_cons_succ, not_false_eq_true, Nat.reduceMod, Nat.reduceDiv, Nat.reduceEqDiff, Nat.reduceLT, Nat.reduceLeDiff, Nat.reduceAdd, Nat.reduceSub, reduceIte, Nat.lt_irrefl, Nat.zero_ne_one, Nat.one_ne_zero, Nat.zero_add, List.nil_append, List.cons_append, Option.toList_some, Option.toList_none, forall_const, false_implies, true_implies, false_or, or_false, true_or, or_true, i_le, i_lt, i_eq, i_eq0, i_lt0, i_0le, i_0lt, i_le0, i_in1, i_cl, nI_add, pk_mul, pk_sub, i_div, i_rem, i_sh1, i_bit, i_or, i_and, i_andn, nt_le, nf_le, nt_lt, nf_lt, nt_eq, nf_eq, not_true_eq_false, and_self, and_false, false_and, eq_self, Bool.toNat_true, Bool.toNat_false, i_bool, i_bool1, Bool.false_eq_true, Bool.true_eq_false, reduceCtorEq, i_neg1, i_neg2, i_neg3, i_neg4, i_neg5, i_neg6, i_neg7, i_neg8, i_neg9, i_nega, i_negb, i_negc, i_max2, i_min2, (y_kind hy), (y_hab hy)])
        refine c_shrunk hb.1 hb.2.2.1 ?_
        try simp (disch := omega) only [no0, no1, nz1, nz2, nz3, nz4, nz5, nz7, nz8, Classical.not_not, bz0, bz1, wi_nil, ld_0, ld_s, isIv_I, isLv_L, isRv_R, true_and, and_true, lset_0, lset_1, lset_s, avw_I, avw_L, avw_R, clr_cons, clr_nil, kst_0, kst_1, kstL_0, kstL_1, addk_I, pA_0, pA_s, pD_0, pD_s, wid_nil, wid_cons, rcv_c, putv_I, putv_L, List.length_cons, List.length_nil, List.set_cons_zero, List.set_cons_succ, not_false_eq_true, Nat.reduceMod, Nat.reduceDiv, Nat.reduceEqDiff, Nat.reduceLT, Nat.reduceLeDiff, Nat.reduceAdd, Nat.reduceSub, reduceIte, Nat.lt_irrefl, Nat.zero_ne_one, Nat.one_ne_zero, Nat.zero_add, List.nil_append, List.cons_append, Option.toList_some, Option.toList_none, forall_const, false_implies, true_implies, false_or, or_false, true_or, or_true, i_le, i_lt, i_eq, i_eq0, i_lt0, i_0le, i_0lt, i_le0, i_in1, i_cl, nI_add, pk_mul, pk_sub, i_div, i_rem, i_sh1, i_bit, i_or, i_and, i_andn, nt_le, nf_le, nt_lt, nf_lt, nt_eq, nf_eq, not_true_eq_false, and_self, and_false, false_and, eq_self, Bool.toNat_true, Bool.toNat_false, i_bool, i_bool1, Bool.false_eq_true, Bool.true_eq_false, reduceCtorEq, i_neg1, i_neg2, i_neg3, i_neg4, i_neg5, i_neg6, i_neg7, i_neg8, i_neg9, i_nega, i_negb, i_negc, i_max2, i_min2, (y_kind hy), (y_hab hy), nI_l, lN_add, wi_nil]
        repeat (
          first
          | refine s_X8_mid_0 ?_
          | refine s_X8_mid_10 ?_
          | refine s_X8_mid_12 ?_
          | refine s_X8_mid_25 ?_
          | refine s_X8_mid_33 ?_
          | refine s_X8_mid_60 ?_
          | refine s_X8_mid_77 ?_
          | refine s_X8_mid_79 ?_
          | refine s_X8_mid_107 ?_
          | refine s_X8_mid_140 ?_
          | refine s_X8_mid_144 ?_
          | refine s_X8_mid_150 ?_
          | refine s_X8_mid_161 ?_
          simp (disch := omega) only [B_X8_mid_0, wi_iload_n, wi_if_lt, wi_bipush, wi_icmp_le, B_X8_mid_10, wi_iconst, wi_ireturn, B_X8_mid_12, wi_aload_n, wi_getfield, fldv_7_3, fds_7_3, cnt_7, fldv_6_7, fds_6_7, cnt_6, wi_if_ne, B_X8_mid_25, wi_invokevirtual, B_X8_mid_33, wi_istore_n, wi_lconst, wi_lstore_n, wi_istore, B_X8_mid_39, wi_iload, wi_icmp_ge, B_X8_mid_60, wi_ishr, wi_iand, wi_icmp_ne, wi_goto, B_X8_mid_77, B_X8_mid_79, wi_lload_n, fldv_6_0, fds_6_0, wi_iaload, fldv_6_2, fds_6_2, wi_invokestatic, cnt_20, aTy_20, aLn_20, arr_20, cnt_22, aTy_22, aLn_22, arr_22, B_X8_mid_107, wi_imul, wi_i2l, wi_ladd, wi_isub, B_X8_mid_140, B_X8_mid_144, wi_iinc, B_X8_mid_150, fldv_7_8, fds_7_8, wi_ldc2_w, cnt_4, B_X8_mid_161, no0, no1, nz1, nz2, nz3, nz4, nz5, nz7, nz8, Classical.not_not, bz0, bz1, wi_nil, ld_0, ld_s, isIv_I, isLv_L, isRv_R, true_and, and_true, lset_0, lset_1, lset_s, avw_I, avw_L, avw_R, clr_cons, clr_nil, kst_0, kst_1, kstL_0, kstL_1, addk_I, pA_0, pA_s, pD_0, pD_s, wid_nil, wid_cons, rcv_c, putv_I, putv_L, List.length_cons, List.length_nil, List.set_cons_zero, List.set_cons_succ, not_false_eq_true, Nat.reduceMod, Nat.reduceDiv, Nat.reduceEqDiff, Nat.reduceLT, Nat.reduceLeDiff, Nat.reduceAdd, Nat.reduceSub, reduceIte, Nat.lt_irrefl, Nat.zero_ne_one, Nat.one_ne_zero, Nat.zero_add, List.nil_append, List.cons_append, Option.toList_some, Option.toList_none, forall_const, false_implies, true_implies, false_or, or_false, true_or, or_true, i_le, i_lt, i_eq, i_eq0, i_lt0, i_0le, i_0lt, i_le0, i_in1, i_cl, nI_add, pk_mul, pk_sub, i_div, i_rem, i_sh1, i_bit, i_or, i_and, i_andn, nt_le, nf_le, nt_lt, nf_lt, nt_eq, nf_eq, not_true_eq_false, and_self, and_false, false_and, eq_self, Bool.toNat_true, Bool.toNat_false, i_bool, i_bool1, Bool.false_eq_true, Bool.true_eq_false, reduceCtorEq, i_neg1, i_neg2, i_neg3, i_neg4, i_neg5, i_neg6, i_neg7, i_neg8, i_neg9, i_nega, i_negb, i_negc, i_max2, i_min2, (y_kind hy), (y_hab hy), nI_l, lN_add])
        refine c_grown hb.1 hb.2.2.1 ?_
        try simp (disch := omega) only [no0, no1, nz1, nz2, nz3, nz4, nz5, nz7, nz8, Classical.not_not, bz0, bz1, wi_nil, ld_0, ld_s, isIv_I, isLv_L, isRv_R, true_and, and_true, lset_0, lset_1, lset_s, avw_I, avw_L, avw_R, clr_cons, clr_nil, kst_0, kst_1, kstL_0, kstL_1, addk_I, pA_0, pA_s, pD_0, pD_s, wid_nil, wid_cons, rcv_c, putv_I, putv_L, List.length_cons, List.length_nil, List.set_cons_zero, List.set_cons_succ, not_false_eq_true, Nat.reduceMod, Nat.reduceDiv, Nat.reduceEqDiff, Nat.reduceLT, Nat.reduceLeDiff, Nat.reduceAdd, Nat.reduceSub, reduceIte, Nat.lt_irrefl, Nat.zero_ne_one, Nat.one_ne_zero, Nat.zero_add, List.nil_append, List.cons_append, Option.toList_some, Option.toList_none, forall_const, false_implies, true_implies, false_or, or_false, true_or, or_true, i_le, i_lt, i_eq, i_eq0, i_lt0, i_0le, i_0lt, i_le0, i_in1, i_cl, nI_add, pk_mul, pk_sub, i_div, i_rem, i_sh1, i_bit, i_or, i_and, i_andn, nt_le, nf_le, nt_lt, nf_lt, nt_eq, nf_eq, not_true_eq_false, and_self, and_false, false_and, eq_self, Bool.toNat_true, Bool.toNat_false, i_bool, i_bool1, Bool.false_eq_true, Bool.true_eq_false, reduceCtorEq, i_neg1, i_neg2, i_neg3, i_neg4, i_neg5, i_neg6, i_neg7, i_neg8, i_neg9, i_nega, i_negb, i_negc, i_max2, i_min2, nI_l, lN_add, wi_nil]
        repeat (
          first
          | refine s_X8_mid_0 ?_
          | refine s_X8_mid_10 ?_
          | refine s_X8_mid_12 ?_
          | refine s_X8_mid_25 ?_
          | refine s_X8_mid_33 ?_
          | refine s_X8_mid_60 ?_
          | refine s_X8_mid_77 ?_
          | refine s_X8_mid_79 ?_
          | refine s_X8_mid_107 ?_
          | refine s_X8_mid_140 ?_
          | refine s_X8_mid_144 ?_
          | refine s_X8_mid_150 ?_
          | refine s_X8_mid_161 ?_
          simp (disch := omega) only [B_X8_mid_0, wi_iload_n, wi_if_lt, wi_bipush, wi_icmp_le, B_X8_mid_10, wi_iconst, wi_ireturn, B_X8_mid_12, wi_aload_n, wi_getfield, fldv_7_3, fds_7_3, cnt_7, fldv_6_7, fds_6_7, cnt_6, wi_if_ne, B_X8_mid_25, wi_invokevirtual, B_X8_mid_33, wi_istore_n, wi_lconst, wi_lstore_n, wi_istore, B_X8_mid_39, wi_iload, wi_icmp_ge, B_X8_mid_60, wi_ishr, wi_iand, wi_icmp_ne, wi_goto, B_X8_mid_77, B_X8_mid_79, wi_lload_n, fldv_6_0, fds_6_0, wi_iaload, fldv_6_2, fds_6_2, wi_invokestatic, cnt_20, aTy_20, aLn_20, arr_20, cnt_22, aTy_22, aLn_22, arr_22, B_X8_mid_107, wi_imul, wi_i2l, wi_ladd, wi_isub, B_X8_mid_140, B_X8_mid_144, wi_iinc, B_X8_mid_150, fldv_7_8, fds_7_8, wi_ldc2_w, cnt_4, B_X8_mid_161, no0, no1, nz1, nz2, nz3, nz4, nz5, nz7, nz8, Classical.not_not, bz0, bz1, wi_nil, ld_0, ld_s, isIv_I, isLv_L, isRv_R, true_and, and_true, lset_0, lset_1, lset_s, avw_I, avw_L, avw_R, clr_cons, clr_nil, kst_0, kst_1, kstL_0, kstL_1, addk_I, pA_0, pA_s, pD_0, pD_s, wid_nil, wid_cons, rcv_c, putv_I, putv_L, List.length_cons, List.length_nil, List.set_cons_zero, List.set_cons_succ, not_false_eq_true, Nat.reduceMod, Nat.reduceDiv, Nat.reduceEqDiff, Nat.reduceLT, Nat.reduceLeDiff, Nat.reduceAdd, Nat.reduceSub, reduceIte, Nat.lt_irrefl, Nat.zero_ne_one, Nat.one_ne_zero, Nat.zero_add, List.nil_append, List.cons_append, Option.toList_some, Option.toList_none, forall_const, false_implies, true_implies, false_or, or_false, true_or, or_true, i_le, i_lt, i_eq, i_eq0, i_lt0, i_0le, i_0lt, i_le0, i_in1, i_cl, nI_add, pk_mul, pk_sub, i_div, i_rem, i_sh1, i_bit, i_or, i_and, i_andn, nt_le, nf_le, nt_lt, nf_lt, nt_eq, nf_eq, not_true_eq_false, and_self, and_false, false_and, eq_self, Bool.toNat_true, Bool.toNat_false, i_bool, i_bool1, Bool.false_eq_true, Bool.true_eq_false, reduceCtorEq, i_neg1, i_neg2, i_neg3, i_neg4, i_neg5, i_neg6, i_neg7, i_neg8, i_neg9, i_nega, i_negb, i_negc, i_max2, i_min2, nI_l, lN_add])
        exact hnx
      cases hbt : s.testBit i
      · try simp (disch := omega) only [no0, no1, nz1, nz2, nz3, nz4, nz5, nz7, nz8, Classical.not_not, bz0, bz1, wi_nil, ld_0, ld_s, isIv_I, isLv_L, isRv_R, true_and, and_true, lset_0, lset_1, lset_s, avw_I, avw_L, avw_R, clr_cons, clr_nil, kst_0, kst_1, kstL_0, kstL_1, addk_I, pA_0, pA_s, pD_0, pD_s, wid_nil, wid_cons, rcv_c, putv_I, putv_L, List.length_cons, List.length_nil, List.set_cons_zero, List.set_cons_succ, not_false_eq_true, Nat.reduceMod, Nat.reduceDiv, Nat.reduceEqDiff, Nat.reduceLT, Nat.reduceLeDiff, Nat.reduceAdd, Nat.reduceSub, reduceIte, Nat.lt_irrefl, Nat.zero_ne_one, Nat.one_ne_zero, Nat.zero_add, List.nil_append, List.cons_append, Option.toList_some, Option.toList_none, forall_const, false_implies, true_implies, false_or, or_false, true_or, or_true, i_le, i_lt, i_eq, i_eq0, i_lt0, i_0le, i_0lt, i_le0, i_in1, i_cl, nI_add, pk_mul, pk_sub, i_div, i_rem, i_sh1, i_bit, i_or, i_and, i_andn, nt_le, nf_le, nt_lt, nf_lt, nt_eq, nf_eq, not_true_eq_false, and_self, and_false, false_and, eq_self, Bool.toNat_true, Bool.toNat_false, i_bool, i_bool1, Bool.false_eq_true, Bool.true_eq_false, reduceCtorEq, i_neg1, i_neg2, i_neg3, i_neg4, i_neg5, i_neg6, i_neg7, i_neg8, i_neg9, i_nega, i_negb, i_negc, i_max2, i_min2, hbt, wi_nil]
        repeat (
          first
          | refine s_X8_mid_0 ?_
          | refine s_X8_mid_10 ?_
          | refine s_X8_mid_12 ?_
          | refine s_X8_mid_25 ?_
          | refine s_X8_mid_33 ?_
          | refine s_X8_mid_60 ?_
          | refine s_X8_mid_77 ?_
          | refine s_X8_mid_107 ?_
          | refine s_X8_mid_140 ?_
          | refine s_X8_mid_144 ?_
          | refine s_X8_mid_150 ?_
          | refine s_X8_mid_161 ?_
          simp (disch := omega) only [B_X8_mid_0, wi_iload_n, wi_if_lt, wi_bipush, wi_icmp_le, B_X8_mid_10, wi_iconst, wi_ireturn, B_X8_mid_12, wi_aload_n, wi_getfield, fldv_7_3, fds_7_3, cnt_7, fldv_6_7, fds_6_7, cnt_6, wi_if_ne, B_X8_mid_25, wi_invokevirtual, B_X8_mid_33, wi_istore_n, wi_lconst, wi_lstore_n, wi_istore, B_X8_mid_39, wi_iload, wi_icmp_ge, B_X8_mid_60, wi_ishr, wi_iand, wi_icmp_ne, wi_goto, B_X8_mid_77, B_X8_mid_79, wi_lload_n, fldv_6_0, fds_6_0, wi_iaload, fldv_6_2, fds_6_2, wi_invokestatic, cnt_20, aTy_20, aLn_20, arr_20, cnt_22, aTy_22, aLn_22, arr_22, B_X8_mid_107, wi_imul, wi_i2l, wi_ladd, wi_isub, B_X8_mid_140, B_X8_mid_144, wi_iinc, B_X8_mid_150, fldv_7_8, fds_7_8, wi_ldc2_w, cnt_4, B_X8_mid_161, no0, no1, nz1, nz2, nz3, nz4, nz5, nz7, nz8, Classical.not_not, bz0, bz1, wi_nil, ld_0, ld_s, isIv_I, isLv_L, isRv_R, true_and, and_true, lset_0, lset_1, lset_s, avw_I, avw_L, avw_R, clr_cons, clr_nil, kst_0, kst_1, kstL_0, kstL_1, addk_I, pA_0, pA_s, pD_0, pD_s, wid_nil, wid_cons, rcv_c, putv_I, putv_L, List.length_cons, List.length_nil, List.set_cons_zero, List.set_cons_succ, not_false_eq_true, Nat.reduceMod, Nat.reduceDiv, Nat.reduceEqDiff, Nat.reduceLT, Nat.reduceLeDiff, Nat.reduceAdd, Nat.reduceSub, reduceIte, Nat.lt_irrefl, Nat.zero_ne_one, Nat.one_ne_zero, Nat.zero_add, List.nil_append, List.cons_append, Option.toList_some, Option.toList_none, forall_const, false_implies, true_implies, false_or, or_false, true_or, or_true, i_le, i_lt, i_eq, i_eq0, i_lt0, i_0le, i_0lt, i_le0, i_in1, i_cl, nI_add, pk_mul, pk_sub, i_div, i_rem, i_sh1, i_bit, i_or, i_and, i_andn, nt_le, nf_le, nt_lt, nf_lt, nt_eq, nf_eq, not_true_eq_false, and_self, and_false, false_and, eq_self, Bool.toNat_true, Bool.toNat_false, i_bool, i_bool1, Bool.false_eq_true, Bool.true_eq_false, reduceCtorEq, i_neg1, i_neg2, i_neg3, i_neg4, i_neg5, i_neg6, i_neg7, i_neg8, i_neg9, i_nega, i_negb, i_negc, i_max2, i_min2, hbt])
        exact key 12 (by rw [hbt]; rfl)
      · try simp (disch := omega) only [no0, no1, nz1, nz2, nz3, nz4, nz5, nz7, nz8, Classical.not_not, bz0, bz1, wi_nil, ld_0, ld_s, isIv_I, isLv_L, isRv_R, true_and, and_true, lset_0, lset_1, lset_s, avw_I, avw_L, avw_R, clr_cons, clr_nil, kst_0, kst_1, kstL_0, kstL_1, addk_I, pA_0, pA_s, pD_0, pD_s, wid_nil, wid_cons, rcv_c, putv_I, putv_L, List.length_cons, List.length_nil, List.set_cons_zero, List.set_cons_succ, not_false_eq_true, Nat.reduceMod, Nat.reduceDiv, Nat.reduceEqDiff, Nat.reduceLT, Nat.reduceLeDiff, Nat.reduceAdd, Nat.reduceSub, reduceIte, Nat.lt_irrefl, Nat.zero_ne_one, Nat.one_ne_zero, Nat.zero_add, List.nil_append, List.cons_append, Option.toList_some, Option.toList_none, forall_const, false_implies, true_implies, false_or, or_false, true_or, or_true, i_le, i_lt, i_eq, i_eq0, i_lt0, i_0le, i_0lt, i_le0, i_in1, i_cl, nI_add, pk_mul, pk_sub, i_div, i_rem, i_sh1, i_bit, i_or, i_and, i_andn, nt_le, nf_le, nt_lt, nf_lt, nt_eq, nf_eq, not_true_eq_false, and_self, and_false, false_and, eq_self, Bool.toNat_true, Bool.toNat_false, i_bool, i_bool1, Bool.false_eq_true, Bool.true_eq_false, reduceCtorEq, i_neg1, i_neg2, i_neg3, i_neg4, i_neg5, i_neg6, i_neg7, i_neg8, i_neg9, i_nega, i_negb, i_negc, i_max2, i_min2, hbt, wi_nil]
        repeat (
          first
          | refine s_X8_mid_0 ?_
          | refine s_X8_mid_10 ?_
          | refine s_X8_mid_12 ?_
          | refine s_X8_mid_25 ?_
          | refine s_X8_mid_33 ?_
          | refine s_X8_mid_60 ?_
          | refine s_X8_mid_77 ?_
          | refine s_X8_mid_107 ?_
          | refine s_X8_mid_140 ?_
          | refine s_X8_mid_144 ?_
          | refine s_X8_mid_150 ?_
          | refine s_X8_mid_161 ?_
          simp (disch := omega) only [B_X8_mid_0, wi_iload_n, wi_if_lt, wi_bipush, wi_icmp_le, B_X8_mid_10, wi_iconst, wi_ireturn, B_X8_mid_12, wi_aload_n, wi_getfield, fldv_7_3, fds_7_3, cnt_7, fldv_6_7, fds_6_7, cnt_6, wi_if_ne, B_X8_mid_25, wi_invokevirtual, B_X8_mid_33, wi_istore_n, wi_lconst, wi_lstore_n, wi_istore, B_X8_mid_39, wi_iload, wi_icmp_ge, B_X8_mid_60, wi_ishr, wi_iand, wi_icmp_ne, wi_goto, B_X8_mid_77, B_X8_mid_79, wi_lload_n, fldv_6_0, fds_6_0, wi_iaload, fldv_6_2, fds_6_2, wi_invokestatic, cnt_20, aTy_20, aLn_20, arr_20, cnt_22, aTy_22, aLn_22, arr_22, B_X8_mid_107, wi_imul, wi_i2l, wi_ladd, wi_isub, B_X8_mid_140, B_X8_mid_144, wi_iinc, B_X8_mid_150, fldv_7_8, fds_7_8, wi_ldc2_w, cnt_4, B_X8_mid_161, no0, no1, nz1, nz2, nz3, nz4, nz5, nz7, nz8, Classical.not_not, bz0, bz1, wi_nil, ld_0, ld_s, isIv_I, isLv_L, isRv_R, true_and, and_true, lset_0, lset_1, lset_s, avw_I, avw_L, avw_R, clr_cons, clr_nil, kst_0, kst_1, kstL_0, kstL_1, addk_I, pA_0, pA_s, pD_0, pD_s, wid_nil, wid_cons, rcv_c, putv_I, putv_L, List.length_cons, List.length_nil, List.set_cons_zero, List.set_cons_succ, not_false_eq_true, Nat.reduceMod, Nat.reduceDiv, Nat.reduceEqDiff, Nat.reduceLT, Nat.reduceLeDiff, Nat.reduceAdd, Nat.reduceSub, reduceIte, Nat.lt_irrefl, Nat.zero_ne_one, Nat.one_ne_zero, Nat.zero_add, List.nil_append, List.cons_append, Option.toList_some, Option.toList_none, forall_const, false_implies, true_implies, false_or, or_false, true_or, or_true, i_le, i_lt, i_eq, i_eq0, i_lt0, i_0le, i_0lt, i_le0, i_in1, i_cl, nI_add, pk_mul, pk_sub, i_div, i_rem, i_sh1, i_bit, i_or, i_and, i_andn, nt_le, nf_le, nt_lt, nf_lt, nt_eq, nf_eq, not_true_eq_false, and_self, and_false, false_and, eq_self, Bool.toNat_true, Bool.toNat_false, i_bool, i_bool1, Bool.false_eq_true, Bool.true_eq_false, reduceCtorEq, i_neg1, i_neg2, i_neg3, i_neg4, i_neg5, i_neg6, i_neg7, i_neg8, i_neg9, i_nega, i_negb, i_negc, i_max2, i_min2, hbt])
        exact key p (by rw [hbt]; rfl)
    · rw [hg, if_pos rfl] at em
      rw [em] at hnx
      try simp (disch := omega) only [no0, no1, nz1, nz2, nz3, nz4, nz5, nz7, nz8, Classical.not_not, bz0, bz1, wi_nil, ld_0, ld_s, isIv_I, isLv_L, isRv_R, true_and, and_true, lset_0, lset_1, lset_s, avw_I, avw_L, avw_R, clr_cons, clr_nil, kst_0, kst_1, kstL_0, kstL_1, addk_I, pA_0, pA_s, pD_0, pD_s, wid_nil, wid_cons, rcv_c, putv_I, putv_L, List.length_cons, List.length_nil, List.set_cons_zero, List.set_cons_succ, not_false_eq_true, Nat.reduceMod, Nat.reduceDiv, Nat.reduceEqDiff, Nat.reduceLT, Nat.reduceLeDiff, Nat.reduceAdd, Nat.reduceSub, reduceIte, Nat.lt_irrefl, Nat.zero_ne_one, Nat.one_ne_zero, Nat.zero_add, List.nil_append, List.cons_append, Option.toList_some, Option.toList_none, forall_const, false_implies, true_implies, false_or, or_false, true_or, or_true, i_le, i_lt, i_eq, i_eq0, i_lt0, i_0le, i_0lt, i_le0, i_in1, i_cl, nI_add, pk_mul, pk_sub, i_div, i_rem, i_sh1, i_bit, i_or, i_and, i_andn, nt_le, nf_le, nt_lt, nf_lt, nt_eq, nf_eq, not_true_eq_false, and_self, and_false, false_and, eq_self, Bool.toNat_true, Bool.toNat_false, i_bool, i_bool1, Bool.false_eq_true, Bool.true_eq_false, reduceCtorEq, i_neg1, i_neg2, i_neg3, i_neg4, i_neg5, i_neg6, i_neg7, i_neg8, i_neg9, i_nega, i_negb, i_negc, i_max2, i_min2, wi_nil]
      repeat (
        first
        | refine s_X8_mid_0 ?_
        | refine s_X8_mid_10 ?_
        | refine s_X8_mid_12 ?_
        | refine s_X8_mid_25 ?_
        | refine s_X8_mid_33 ?_
        | refine s_X8_mid_60 ?_
        | refine s_X8_mid_77 ?_
        | refine s_X8_mid_79 ?_
        | refine s_X8_mid_107 ?_
        | refine s_X8_mid_140 ?_
        | refine s_X8_mid_144 ?_
        | refine s_X8_mid_150 ?_
        | refine s_X8_mid_161 ?_
        simp (disch := omega) only [B_X8_mid_0, wi_iload_n, wi_if_lt, wi_bipush, wi_icmp_le, B_X8_mid_10, wi_iconst, wi_ireturn, B_X8_mid_12, wi_aload_n, wi_getfield, fldv_7_3, fds_7_3, cnt_7, fldv_6_7, fds_6_7, cnt_6, wi_if_ne, B_X8_mid_25, wi_invokevirtual, B_X8_mid_33, wi_istore_n, wi_lconst, wi_lstore_n, wi_istore, B_X8_mid_39, wi_iload, wi_icmp_ge, B_X8_mid_60, wi_ishr, wi_iand, wi_icmp_ne, wi_goto, B_X8_mid_77, B_X8_mid_79, wi_lload_n, fldv_6_0, fds_6_0, wi_iaload, fldv_6_2, fds_6_2, wi_invokestatic, cnt_20, aTy_20, aLn_20, arr_20, cnt_22, aTy_22, aLn_22, arr_22, B_X8_mid_107, wi_imul, wi_i2l, wi_ladd, wi_isub, B_X8_mid_140, B_X8_mid_144, wi_iinc, B_X8_mid_150, fldv_7_8, fds_7_8, wi_ldc2_w, cnt_4, B_X8_mid_161, no0, no1, nz1, nz2, nz3, nz4, nz5, nz7, nz8, Classical.not_not, bz0, bz1, wi_nil, ld_0, ld_s, isIv_I, isLv_L, isRv_R, true_and, and_true, lset_0, lset_1, lset_s, avw_I, avw_L, avw_R, clr_cons, clr_nil, kst_0, kst_1, kstL_0, kstL_1, addk_I, pA_0, pA_s, pD_0, pD_s, wid_nil, wid_cons, rcv_c, putv_I, putv_L, List.length_cons, List.length_nil, List.set_cons_zero, List.set_cons_succ, not_false_eq_true, Nat.reduceMod, Nat.reduceDiv, Nat.reduceEqDiff, Nat.reduceLT, Nat.reduceLeDiff, Nat.reduceAdd, Nat.reduceSub, reduceIte, Nat.lt_irrefl, Nat.zero_ne_one, Nat.one_ne_zero, Nat.zero_add, List.nil_append, List.cons_append, Option.toList_some, Option.toList_none, forall_const, false_implies, true_implies, false_or, or_false, true_or, or_true, i_le, i_lt, i_eq, i_eq0, i_lt0, i_0le, i_0lt, i_le0, i_in1, i_cl, nI_add, pk_mul, pk_sub, i_div, i_rem, i_sh1, i_bit, i_or, i_and, i_andn, nt_le, nf_le, nt_lt, nf_lt, nt_eq, nf_eq, not_true_eq_false, and_self, and_false, false_and, eq_self, Bool.toNat_true, Bool.toNat_false, i_bool, i_bool1, Bool.false_eq_true, Bool.true_eq_false, reduceCtorEq, i_neg1, i_neg2, i_neg3, i_neg4, i_neg5, i_neg6, i_neg7, i_neg8, i_neg9, i_nega, i_negb, i_negc, i_max2, i_min2])
      exact hnx
theorem l_mmid {s p : Nat} (hp : p ≤ 12) (hs : s < 32) (hm : YrM S 40 Y) (ho : YOk 40 Y) (q : wpX (d + 9) mX9_mid 124 [aR 8 0, aU, aU, aU, aL (lN (fb_sm (mdf Y s p) (Y 6 0))), aU, aU, aU] [] S P) : ∀ (m i : Nat), i + m = Y 6 0 → wpX (d + 9) mX9_mid 34 [aR 8 0, aI (nI p), aU, aI (nI s), aL (lN (fb_sm (mdf Y s p) i)), aU, aI (nI i), aU] [] S P := by
  have hn5 := ho.1.1
  have hyl := yop_lt (Y := Y) hn5
  intro m
  induction m with
  | zero =>
    intro i hi
    have e : i = Y 6 0 := by omega
    subst e
    refine s_X9_mid_34 ?_
    simp (disch := omega) only [B_X9_mid_34, wi_iload, wi_aload_n, wi_getfield, fldv_8_10, fds_8_10, cnt_8, wi_icmp_ge, wi_iload_n, wi_invokestatic, no0, no1, nz1, nz2, nz3, nz4, nz5, nz7, nz8, Classical.not_not, bz0, bz1, wi_nil, ld_0, ld_s, isIv_I, isLv_L, isRv_R, true_and, and_true, lset_0, lset_1, lset_s, avw_I, avw_L, avw_R, clr_cons, clr_nil, kst_0, kst_1, kstL_0, kstL_1, addk_I, pA_0, pA_s, pD_0, pD_s, wid_nil, wid_cons, rcv_c, putv_I, putv_L, List.length_cons, List.length_nil, List.set_cons_zero, List.set_cons_succ, not_false_eq_true, Nat.reduceMod, Nat.reduceDiv, Nat.reduceEqDiff, Nat.reduceLT, Nat.reduceLeDiff, Nat.reduceAdd, Nat.reduceSub, reduceIte, Nat.lt_irrefl, Nat.zero_ne_one, Nat.one_ne_zero, Nat.zero_add, List.nil_append, List.cons_append, Option.toList_some, Option.toList_none, forall_const, false_implies, true_implies, false_or, or_false, true_or, or_true, i_le, i_lt, i_eq, i_eq0, i_lt0, i_0le, i_0lt, i_le0, i_in1, i_cl, nI_add, pk_mul, pk_sub, i_div, i_rem, i_sh1, i_bit, i_or, i_and, i_andn, nt_le, nf_le, nt_lt, nf_lt, nt_eq, nf_eq, not_true_eq_false, and_self, and_false, false_and, eq_self, Bool.toNat_true, Bool.toNat_false, i_bool, i_bool1, Bool.false_eq_true, Bool.true_eq_false, reduceCtorEq, i_neg1, i_neg2, i_neg3, i_neg4, i_neg5, i_neg6, i_neg7, i_neg8, i_neg9, i_nega, i_negb, i_negc, i_max2, i_min2, (m_n hm)]
    exact q
  | succ m ih =>
    intro i hi
    have hin : i < Y 6 0 := by omega
    have hb := ho.2 i hin
    obtain ⟨a1, a2, a3⟩ := mdf_le ho (s := s) hp hin
    have hsm := md_le ho (s := s) hp i (by omega)
    have hnx := ih (i + 1) (by omega)
    rw [fb_sm_succ] at hnx
    have em : mdf Y s p i = if (Y 6 4).testBit i then 0 else (if s.testBit i then p else 12) * shr (Y 0 i) (Y 2 i) + (12 - (if s.testBit i then p else 12)) * grw (Y 0 i) (Y 2 i) := rfl
    have hyb := yop_bit ho (show i < 5 by omega)
    rw [decide_eq_true hin, Bool.true_and] at hyb
    have key : ∀ c, 12 - c = (if s.testBit i then p else 12) → c ≤ 12 → wpX (d + 9) mX9_mid 60 [aR 8 0, aI (nI p), aU, aI (nI s), aL (lN (fb_sm (mdf Y s p) i)), aU, aI (nI i), aU] [aI (nI c)] S P := by
      intro c hc hc12
      rw [← hc] at em a2 a3
      rw [show 12 - (12 - c) = c by omega] at em a3
      try simp (disch := omega) only [no0, no1, nz1, nz2, nz3, nz4, nz5, nz7, nz8, Classical.not_not, bz0, bz1, wi_nil, ld_0, ld_s, isIv_I, isLv_L, isRv_R, true_and, and_true, lset_0, lset_1, lset_s, avw_I, avw_L, avw_R, clr_cons, clr_nil, kst_0, kst_1, kstL_0, kstL_1, addk_I, pA_0, pA_s, pD_0, pD_s, wid_nil, wid_cons, rcv_c, putv_I, putv_L, List.length_cons, List.length_nil, List.set_cons_zero, List.set_cons_succ, not_false_eq_true, Nat.reduceMod, Nat.reduceDiv, Nat.reduceEqDiff, Nat.reduceLT, Nat.reduceLeDiff, Nat.reduceAdd, Nat.reduceSub, reduceIte, Nat.lt_irrefl, Nat.zero_ne_one, Nat.one_ne_zero, Nat.zero_add, List.nil_append, List.cons_append, Option.toList_some, Option.toList_none, forall_const, false_implies, true_implies, false_or, or_false, true_or, or_true, i_le, i_lt, i_eq, i_eq0, i_lt0, i_0le, i_0lt, i_le0, i_in1, i_cl, nI_add, pk_mul, pk_sub, i_div, i_rem, i_sh1, i_bit, i_or, i_and, i_andn, nt_le, nf_le, nt_lt, nf_lt, nt_eq, nf_eq, not_true_eq_false, and_self, and_false, false_and, eq_self, Bool.toNat_true, Bool.toNat_false, i_bool, i_bool1, Bool.false_eq_true, Bool.true_eq_false, reduceCtorEq, i_neg1, i_neg2, i_neg3, i_neg4, i_neg5, i_neg6, i_neg7, i_neg8, i_neg9, i_nega, i_negb, i_negc, i_max2, i_min2, wi_nil]
      repeat (
        first
        | refine s_X9_mid_0 ?_
        | refine s_X9_mid_8 ?_
        | refine s_X9_mid_11 ?_
        | refine s_X9_mid_18 ?_
        | refine s_X9_mid_27 ?_
        | refine s_X9_mid_49 ?_
        | refine s_X9_mid_59 ?_
        | refine s_X9_mid_60 ?_
        | refine s_X9_mid_72 ?_
        | refine s_X9_mid_77 ?_
        | refine s_X9_mid_92 ?_
        | refine s_X9_mid_108 ?_
        | refine s_X9_mid_114 ?_
        | refine s_X9_mid_115 ?_
        | refine s_X9_mid_124 ?_
        | refine s_X9_mid_133 ?_
        simp (disch := omega) only [B_X9_mid_0, wi_aload_n, wi_iload_n, wi_iconst, wi_bipush, wi_invokestatic, B_X9_mid_8, wi_invokevirtual, cnt_8, B_X9_mid_11, wi_istore_n, wi_if_ge, wi_ireturn, B_X9_mid_18, wi_getfield, fldv_8_20, fds_8_20, B_X9_mid_27, wi_lconst, wi_lstore, wi_istore, B_X9_mid_34, wi_iload, fldv_8_10, fds_8_10, wi_icmp_ge, B_X9_mid_49, wi_if_eq, wi_isub, wi_goto, B_X9_mid_59, B_X9_mid_60, wi_lload, B_X9_mid_72, B_X9_mid_77, B_X9_mid_92, wi_imul, B_X9_mid_108, wi_iadd, wi_i2l, B_X9_mid_114, B_X9_mid_115, wi_ladd, wi_iinc, B_X9_mid_124, wi_ldc2_w, B_X9_mid_133, no0, no1, nz1, nz2, nz3, nz4, nz5, nz7, nz8, Classical.not_not, bz0, bz1, wi_nil, ld_0, ld_s, isIv_I, isLv_L, isRv_R, true_and, and_true, lset_0, lset_1, lset_s, avw_I, avw_L, avw_R, clr_cons, clr_nil, kst_0, kst_1, kstL_0, kstL_1, addk_I, pA_0, pA_s, pD_0, pD_s, wid_nil, wid_cons, rcv_c, putv_I, putv_L, List.length_cons, List.length_nil, List.set_cons_zero, List.set_cons_succ, not_false_eq_true, Nat.reduceMod, Nat.reduceDiv, Nat.reduceEqDiff, Nat.reduceLT, Nat.reduceLeDiff, Nat.reduceAdd, Nat.reduceSub, reduceIte, Nat.lt_irrefl, Nat.zero_ne_one, Nat.one_ne_zero, Nat.zero_add, List.nil_append, List.cons_append, Option.toList_some, Option.toList_none, forall_const, false_implies, true_implies, false_or, or_false, true_or, or_true, i_le, i_lt, i_eq, i_eq0, i_lt0, i_0le, i_0lt, i_le0, i_in1, i_cl, nI_add, pk_mul, pk_sub, i_div, i_rem, i_sh1, i_bit, i_or, i_and, i_andn, nt_le, nf_le, nt_lt, nf_lt, nt_eq, nf_eq, not_true_eq_false, and_self, and_false, false_and, eq_self, Bool.toNat_true, Bool.toNat_false, i_bool, i_bool1, Bool.false_eq_true, Bool.true_eq_false, reduceCtorEq, i_neg1, i_neg2, i_neg3, i_neg4, i_neg5, i_neg6, i_neg7, i_neg8, i_neg9, i_nega, i_negb, i_negc, i_max2, i_min2])
      refine c_there (Or.inl rfl) hm hn5 (yg_lt ho) ?_
      try simp (disch := omega) only [no0, no1, nz1, nz2, nz3, nz4, nz5, nz7, nz8, Classical.not_not, bz0, bz1, wi_nil, ld_0, ld_s, isIv_I, isLv_L, isRv_R, true_and, and_true, lset_0, lset_1, lset_s, avw_I, avw_L, avw_R, clr_cons, clr_nil, kst_0, kst_1, kstL_0, kstL_1, addk_I, pA_0, pA_s, pD_0, pD_s, wid_nil, wid_cons, rcv_c, putv_I, putv_L, List.length_cons, List.length_nil, List.set_cons_zero, List.set_cons_succ, not_false_eq_true, Nat.reduceMod, Nat.reduceDiv, Nat.reduceEqDiff, Nat.reduceLT, Nat.reduceLeDiff, Nat.reduceAdd, Nat.reduceSub, reduceIte, Nat.lt_irrefl, Nat.zero_ne_one, Nat.one_ne_zero, Nat.zero_add, List.nil_append, List.cons_append, Option.toList_some, Option.toList_none, forall_const, false_implies, true_implies, false_or, or_false, true_or, or_true, i_le, i_lt, i_eq, i_eq0, i_lt0, i_0le, i_0lt, i_le0, i_in1, i_cl, nI_add, pk_mul, pk_sub, i_div, i_rem, i_sh1, i_bit, i_or, i_and, i_andn, nt_le, nf_le, nt_lt, nf_lt, nt_eq, nf_eq, not_true_eq_false, and_self, and_false, false_and, eq_self, Bool.toNat_true, Bool.toNat_false, i_bool, i_bool1, Bool.false_eq_true, Bool.true_eq_false, reduceCtorEq, i_neg1, i_neg2, i_neg3, i_neg4, i_neg5, i_neg6, i_neg7, i_neg8, i_neg9, i_nega, i_negb, i_negc, i_max2, i_min2, wi_nil]
      repeat (
        first
        | refine s_X9_mid_0 ?_
        | refine s_X9_mid_8 ?_
        | refine s_X9_mid_11 ?_
        | refine s_X9_mid_18 ?_
        | refine s_X9_mid_27 ?_
        | refine s_X9_mid_49 ?_
        | refine s_X9_mid_59 ?_
        | refine s_X9_mid_60 ?_
        | refine s_X9_mid_72 ?_
        | refine s_X9_mid_77 ?_
        | refine s_X9_mid_92 ?_
        | refine s_X9_mid_108 ?_
        | refine s_X9_mid_114 ?_
        | refine s_X9_mid_115 ?_
        | refine s_X9_mid_124 ?_
        | refine s_X9_mid_133 ?_
        simp (disch := omega) only [B_X9_mid_0, wi_aload_n, wi_iload_n, wi_iconst, wi_bipush, wi_invokestatic, B_X9_mid_8, wi_invokevirtual, cnt_8, B_X9_mid_11, wi_istore_n, wi_if_ge, wi_ireturn, B_X9_mid_18, wi_getfield, fldv_8_20, fds_8_20, B_X9_mid_27, wi_lconst, wi_lstore, wi_istore, B_X9_mid_34, wi_iload, fldv_8_10, fds_8_10, wi_icmp_ge, B_X9_mid_49, wi_if_eq, wi_isub, wi_goto, B_X9_mid_59, B_X9_mid_60, wi_lload, B_X9_mid_72, B_X9_mid_77, B_X9_mid_92, wi_imul, B_X9_mid_108, wi_iadd, wi_i2l, B_X9_mid_114, B_X9_mid_115, wi_ladd, wi_iinc, B_X9_mid_124, wi_ldc2_w, B_X9_mid_133, no0, no1, nz1, nz2, nz3, nz4, nz5, nz7, nz8, Classical.not_not, bz0, bz1, wi_nil, ld_0, ld_s, isIv_I, isLv_L, isRv_R, true_and, and_true, lset_0, lset_1, lset_s, avw_I, avw_L, avw_R, clr_cons, clr_nil, kst_0, kst_1, kstL_0, kstL_1, addk_I, pA_0, pA_s, pD_0, pD_s, wid_nil, wid_cons, rcv_c, putv_I, putv_L, List.length_cons, List.length_nil, List.set_cons_zero, List.set_cons_succ, not_false_eq_true, Nat.reduceMod, Nat.reduceDiv, Nat.reduceEqDiff, Nat.reduceLT, Nat.reduceLeDiff, Nat.reduceAdd, Nat.reduceSub, reduceIte, Nat.lt_irrefl, Nat.zero_ne_one, Nat.one_ne_zero, Nat.zero_add, List.nil_append, List.cons_append, Option.toList_some, Option.toList_none, forall_const, false_implies, true_implies, false_or, or_false, true_or, or_true, i_le, i_lt, i_eq, i_eq0, i_lt0, i_0le, i_0lt, i_le0, i_in1, i_cl, nI_add, pk_mul, pk_sub, i_div, i_rem, i_sh1, i_bit, i_or, i_and, i_andn, nt_le, nf_le, nt_lt, nf_lt, nt_eq, nf_eq, not_true_eq_false, and_self, and_false, false_and, eq_self, Bool.toNat_true, Bool.toNat_false, i_bool, i_bool1, Bool.false_eq_true, Bool.true_eq_false, reduceCtorEq, i_neg1, i_neg2, i_neg3, i_neg4, i_neg5, i_neg6, i_neg7, i_neg8, i_neg9, i_nega, i_negb, i_negc, i_max2, i_min2])
      refine c_has (by omega) (by omega) ?_
      cases hg : (Y 6 4).testBit i
      · rw [hg] at hyb
        have hyb : (yop Y).testBit i = true := hyb
        rw [hg, if_neg (by decide), Nat.add_comm] at em
        rw [em] at hnx
        try simp (disch := omega) only [no0, no1, nz1, nz2, nz3, nz4, nz5, nz7, nz8, Classical.not_not, bz0, bz1, wi_nil, ld_0, ld_s, isIv_I, isLv_L, isRv_R, true_and, and_true, lset_0, lset_1, lset_s, avw_I, avw_L, avw_R, clr_cons, clr_nil, kst_0, kst_1, kstL_0, kstL_1, addk_I, pA_0, pA_s, pD_0, pD_s, wid_nil, wid_cons, rcv_c, putv_I, putv_L, List.length_cons, List.length_nil, List.set_cons_zero, List.set_cons_succ, not_false_eq_true, Nat.reduceMod, Nat.reduceDiv, Nat.reduceEqDiff, Nat.reduceLT, Nat.reduceLeDiff, Nat.reduceAdd, Nat.reduceSub, reduceIte, Nat.lt_irrefl, Nat.zero_ne_one, Nat.one_ne_zero, Nat.zero_add, List.nil_append, List.cons_append, Option.toList_some, Option.toList_none, forall_const, false_implies, true_implies, false_or, or_false, true_or, or_true, i_le, i_lt, i_eq, i_eq0, i_lt0, i_0le, i_0lt, i_le0, i_in1, i_cl, nI_add, pk_mul, pk_sub, i_div, i_rem, i_sh1, i_bit, i_or, i_and, i_andn, nt_le, nf_le, nt_lt, nf_lt, nt_eq, nf_eq, not_true_eq_false, and_self, and_false, false_and, eq_self, Bool.toNat_true, Bool.toNat_false, i_bool, i_bool1, Bool.false_eq_true, Bool.true_eq_false, reduceCtorEq, i_neg1, i_neg2, i_neg3, i_neg4, i_neg5, i_neg6, i_neg7, i_neg8, i_neg9, i_nega, i_negb, i_negc, i_max2, i_min2, hyb, wi_nil]
        repeat (
          first
          | refine s_X9_mid_0 ?_
          | refine s_X9_mid_8 ?_
          | refine s_X9_mid_11 ?_
          | refine s_X9_mid_18 ?_
          | refine s_X9_mid_27 ?_
          | refine s_X9_mid_49 ?_
          | refine s_X9_mid_59 ?_
          | refine s_X9_mid_60 ?_
          | refine s_X9_mid_72 ?_
          | refine s_X9_mid_77 ?_
          | refine s_X9_mid_92 ?_
          | refine s_X9_mid_108 ?_
          | refine s_X9_mid_114 ?_
          | refine s_X9_mid_115 ?_
          | refine s_X9_mid_124 ?_
          | refine s_X9_mid_133 ?_
          simp (disch := omega) only [B_X9_mid_0, wi_aload_n, wi_iload_n, wi_iconst, wi_bipush, wi_invokestatic, B_X9_mid_8, wi_invokevirtual, cnt_8, B_X9_mid_11, wi_istore_n, wi_if_ge, wi_ireturn, B_X9_mid_18, wi_getfield, fldv_8_20, fds_8_20, B_X9_mid_27, wi_lconst, wi_lstore, wi_istore, B_X9_mid_34, wi_iload, fldv_8_10, fds_8_10, wi_icmp_ge, B_X9_mid_49, wi_if_eq, wi_isub, wi_goto, B_X9_mid_59, B_X9_mid_60, wi_lload, B_X9_mid_72, B_X9_mid_77, B_X9_mid_92, wi_imul, B_X9_mid_108, wi_iadd, wi_i2l, B_X9_mid_114, B_X9_mid_115, wi_ladd, wi_iinc, B_X9_mid_124, wi_ldc2_w, B_X9_mid_133, no0, no1, nz1, nz2, nz3, nz4, nz5, nz7, nz8, Classical.not_not, bz0, bz1, wi_nil, ld_0, ld_s, isIv_I, isLv_L, isRv_R, true_and, and_true, lset_0, lset_1, lset_s, avw_I, avw_L, avw_R, clr_cons, clr_nil, kst_0, kst_1, kstL_0, kstL_1, addk_I, pA_0, pA_s, pD_0, pD_s, wid_nil, wid_cons, rcv_c, putv_I, putv_L, List.length_cons, List.length_nil, List.set_cons_zero, List.set_cons_succ, not_false_eq_true, Nat.reduceMod, Nat.reduceDiv, Nat.reduceEqDiff, Nat.reduceLT, Nat.reduceLeDiff, Nat.reduceAdd, Nat.reduceSub, reduceIte, Nat.lt_irrefl, Nat.zero_ne_one, Nat.one_ne_zero, Nat.zero_add, List.nil_append, List.cons_append, Option.toList_some, Option.toList_none, forall_const, false_implies, true_implies, false_or, or_false, true_or, or_true, i_le, i_lt, i_eq, i_eq0, i_lt0, i_0le, i_0lt, i_le0, i_in1, i_cl, nI_add, pk_mul, pk_sub, i_div, i_rem, i_sh1, i_bit, i_or, i_and, i_andn, nt_le, nf_le, nt_lt, nf_lt, nt_eq, nf_eq, not_true_eq_false, and_self, and_false, false_and, eq_self, Bool.toNat_true, Bool.toNat_false, i_bool, i_bool1, Bool.false_eq_true, Bool.true_eq_false, reduceCtorEq, i_neg1, i_neg2, i_neg3, i_neg4, i_neg5, i_neg6, i_neg7, i_neg8, i_neg9, i_nega, i_negb, i_negc, i_max2, i_min2, hyb])
        refine c_mgrown (Or.inl rfl) hm hb.1 hb.2.2.1 (by omega) hin ?_
        try simp (disch := omega) only [no0, no1, nz1, nz2, nz3, nz4, nz5, nz7, nz8, Classical.not_not, bz0, bz1, wi_nil, ld_0, ld_s, isIv_I, isLv_L, isRv_R, true_and, and_true, lset_0, lset_1, lset_s, avw_I, avw_L, avw_R, clr_cons, clr_nil, kst_0, kst_1, kstL_0, kstL_1, addk_I, pA_0, pA_s, pD_0, pD_s, wid_nil, wid_cons, rcv_c, putv_I, putv_L, List.length_cons, List.length_nil, List.set_cons_zero, List.set_cons_succ, not_false_eq_true, Nat.reduceMod, Nat.reduceDiv, Nat.reduceEqDiff, Nat.reduceLT, Nat.reduceLeDiff, Nat.reduceAdd, Nat.reduceSub, reduceIte, Nat.lt_irrefl, Nat.zero_ne_one, Nat.one_ne_zero, Nat.zero_add, List.nil_append, List.cons_append, Option.toList_some, Option.toList_none, forall_const, false_implies, true_implies, false_or, or_false, true_or, or_true, i_le, i_lt, i_eq, i_eq0, i_lt0, i_0le, i_0lt, i_le0, i_in1, i_cl, nI_add, pk_mul, pk_sub, i_div, i_rem, i_sh1, i_bit, i_or, i_and, i_andn, nt_le, nf_le, nt_lt, nf_lt, nt_eq, nf_eq, not_true_eq_false, and_self, and_false, false_and, eq_self, Bool.toNat_true, Bool.toNat_false, i_bool, i_bool1, Bool.false_eq_true, Bool.true_eq_false, reduceCtorEq, i_neg1, i_neg2, i_neg3, i_neg4, i_neg5, i_neg6, i_neg7, i_neg8, i_neg9, i_nega, i_negb, i_negc, i_max2, i_min2, wi_nil]
        repeat (
          first
          | refine s_X9_mid_0 ?_
          | refine s_X9_mid_8 ?_
          | refine s_X9_mid_11 ?_
          | refine s_X9_mid_18 ?_
          | refine s_X9_mid_27 ?_
          | refine s_X9_mid_49 ?_
          | refine s_X9_mid_59 ?_
          | refine s_X9_mid_60 ?_
          | refine s_X9_mid_72 ?_
          | refine s_X9_mid_77 ?_
          | refine s_X9_mid_92 ?_
          | refine s_X9_mid_108 ?_
          | refine s_X9_mid_114 ?_
          | refine s_X9_mid_115 ?_
          | refine s_X9_mid_124 ?_
          | refine s_X9_mid_133 ?_
          simp (disch := omega) only [B_X9_mid_0, wi_aload_n, wi_iload_n, wi_iconst, wi_bipush, wi_invokestatic, B_X9_mid_8, wi_invokevirtual, cnt_8, B_X9_mid_11, wi_istore_n, wi_if_ge, wi_ireturn, B_X9_mid_18, wi_getfield, fldv_8_20, fds_8_20, B_X9_mid_27, wi_lconst, wi_lstore, wi_istore, B_X9_mid_34, wi_iload, fldv_8_10, fds_8_10, wi_icmp_ge, B_X9_mid_49, wi_if_eq, wi_isub, wi_goto, B_X9_mid_59, B_X9_mid_60, wi_lload, B_X9_mid_72, B_X9_mid_77, B_X9_mid_92, wi_imul, B_X9_mid_108, wi_iadd, wi_i2l, B_X9_mid_114, B_X9_mid_115, wi_ladd, wi_iinc, B_X9_mid_124, wi_ldc2_w, B_X9_mid_133, no0, no1, nz1, nz2, nz3, nz4, nz5, nz7, nz8, Classical.not_not, bz0, bz1, wi_nil, ld_0, ld_s, isIv_I, isLv_L, isRv_R, true_and, and_true, lset_0, lset_1, lset_s, avw_I, avw_L, avw_R, clr_cons, clr_nil, kst_0, kst_1, kstL_0, kstL_1, addk_I, pA_0, pA_s, pD_0, pD_s, wid_nil, wid_cons, rcv_c, putv_I, putv_L, List.length_cons, List.length_nil, List.set_cons_zero, List.set_cons_succ, not_false_eq_true, Nat.reduceMod, Nat.reduceDiv, Nat.reduceEqDiff, Nat.reduceLT, Nat.reduceLeDiff, Nat.reduceAdd, Nat.reduceSub, reduceIte, Nat.lt_irrefl, Nat.zero_ne_one, Nat.one_ne_zero, Nat.zero_add, List.nil_append, List.cons_append, Option.toList_some, Option.toList_none, forall_const, false_implies, true_implies, false_or, or_false, true_or, or_true, i_le, i_lt, i_eq, i_eq0, i_lt0, i_0le, i_0lt, i_le0, i_in1, i_cl, nI_add, pk_mul, pk_sub, i_div, i_rem, i_sh1, i_bit, i_or, i_and, i_andn, nt_le, nf_le, nt_lt, nf_lt, nt_eq, nf_eq, not_true_eq_false, and_self, and_false, false_and, eq_self, Bool.toNat_true, Bool.toNat_false, i_bool, i_bool1, Bool.false_eq_true, Bool.true_eq_false, reduceCtorEq, i_neg1, i_neg2, i_neg3, i_neg4, i_neg5, i_neg6, i_neg7, i_neg8, i_neg9, i_nega, i_negb, i_negc, i_max2, i_min2])
        refine c_lessened (Or.inl rfl) hm hb.1 hb.2.2.1 (by omega) hin ?_
        try simp (disch := omega) only [no0, no1, nz1, nz2, nz3, nz4, nz5, nz7, nz8, Classical.not_not, bz0, bz1, wi_nil, ld_0, ld_s, isIv_I, isLv_L, isRv_R, true_and, and_true, lset_0, lset_1, lset_s, avw_I, avw_L, avw_R, clr_cons, clr_nil, kst_0, kst_1, kstL_0, kstL_1, addk_I, pA_0, pA_s, pD_0, pD_s, wid_nil, wid_cons, rcv_c, putv_I, putv_L, List.length_cons, List.length_nil, List.set_cons_zero, List.set_cons_succ, not_false_eq_true, Nat.reduceMod, Nat.reduceDiv, Nat.reduceEqDiff, Nat.reduceLT, Nat.reduceLeDiff, Nat.reduceAdd, Nat.reduceSub, reduceIte, Nat.lt_irrefl, Nat.zero_ne_one, Nat.one_ne_zero, Nat.zero_add, List.nil_append, List.cons_append, Option.toList_some, Option.toList_none, forall_const, false_implies, true_implies, false_or, or_false, true_or, or_true, i_le, i_lt, i_eq, i_eq0, i_lt0, i_0le, i_0lt, i_le0, i_in1, i_cl, nI_add, pk_mul, pk_sub, i_div, i_rem, i_sh1, i_bit, i_or, i_and, i_andn, nt_le, nf_le, nt_lt, nf_lt, nt_eq, nf_eq, not_true_eq_false, and_self, and_false, false_and, eq_self, Bool.toNat_true, Bool.toNat_false, i_bool, i_bool1, Bool.false_eq_true, Bool.true_eq_false, reduceCtorEq, i_neg1, i_neg2, i_neg3, i_neg4, i_neg5, i_neg6, i_neg7, i_neg8, i_neg9, i_nega, i_negb, i_negc, i_max2, i_min2, nI_l, lN_add, wi_nil]
        repeat (
          first
          | refine s_X9_mid_0 ?_
          | refine s_X9_mid_8 ?_
          | refine s_X9_mid_11 ?_
          | refine s_X9_mid_18 ?_
          | refine s_X9_mid_27 ?_
          | refine s_X9_mid_49 ?_
          | refine s_X9_mid_59 ?_
          | refine s_X9_mid_60 ?_
          | refine s_X9_mid_72 ?_
          | refine s_X9_mid_77 ?_
          | refine s_X9_mid_92 ?_
          | refine s_X9_mid_108 ?_
          | refine s_X9_mid_114 ?_
          | refine s_X9_mid_115 ?_
          | refine s_X9_mid_124 ?_
          | refine s_X9_mid_133 ?_
          simp (disch := omega) only [B_X9_mid_0, wi_aload_n, wi_iload_n, wi_iconst, wi_bipush, wi_invokestatic, B_X9_mid_8, wi_invokevirtual, cnt_8, B_X9_mid_11, wi_istore_n, wi_if_ge, wi_ireturn, B_X9_mid_18, wi_getfield, fldv_8_20, fds_8_20, B_X9_mid_27, wi_lconst, wi_lstore, wi_istore, B_X9_mid_34, wi_iload, fldv_8_10, fds_8_10, wi_icmp_ge, B_X9_mid_49, wi_if_eq, wi_isub, wi_goto, B_X9_mid_59, B_X9_mid_60, wi_lload, B_X9_mid_72, B_X9_mid_77, B_X9_mid_92, wi_imul, B_X9_mid_108, wi_iadd, wi_i2l, B_X9_mid_114, B_X9_mid_115, wi_ladd, wi_iinc, B_X9_mid_124, wi_ldc2_w, B_X9_mid_133, no0, no1, nz1, nz2, nz3, nz4, nz5, nz7, nz8, Classical.not_not, bz0, bz1, wi_nil, ld_0, ld_s, isIv_I, isLv_L, isRv_R, true_and, and_true, lset_0, lset_1, lset_s, avw_I, avw_L, avw_R, clr_cons, clr_nil, kst_0, kst_1, kstL_0, kstL_1, addk_I, pA_0, pA_s, pD_0, pD_s, wid_nil, wid_cons, rcv_c, putv_I, putv_L, List.length_cons, List.length_nil, List.set_cons_zero, List.set_cons_succ, not_false_eq_true, Nat.reduceMod, Nat.reduceDiv, Nat.reduceEqDiff, Nat.reduceLT, Nat.reduceLeDiff, Nat.reduceAdd, Nat.reduceSub, reduceIte, Nat.lt_irrefl, Nat.zero_ne_one, Nat.one_ne_zero, Nat.zero_add, List.nil_append, List.cons_append, Option.toList_some, Option.toList_none, forall_const, false_implies, true_implies, false_or, or_false, true_or, or_true, i_le, i_lt, i_eq, i_eq0, i_lt0, i_0le, i_0lt, i_le0, i_in1, i_cl, nI_add, pk_mul, pk_sub, i_div, i_rem, i_sh1, i_bit, i_or, i_and, i_andn, nt_le, nf_le, nt_lt, nf_lt, nt_eq, nf_eq, not_true_eq_false, and_self, and_false, false_and, eq_self, Bool.toNat_true, Bool.toNat_false, i_bool, i_bool1, Bool.false_eq_true, Bool.true_eq_false, reduceCtorEq, i_neg1, i_neg2, i_neg3, i_neg4, i_neg5, i_neg6, i_neg7, i_neg8, i_neg9, i_nega, i_negb, i_negc, i_max2, i_min2, nI_l, lN_add])
        exact hnx
      · rw [hg] at hyb
        have hyb : (yop Y).testBit i = false := hyb
        rw [hg, if_pos rfl] at em
        rw [em] at hnx
        try simp (disch := omega) only [no0, no1, nz1, nz2, nz3, nz4, nz5, nz7, nz8, Classical.not_not, bz0, bz1, wi_nil, ld_0, ld_s, isIv_I, isLv_L, isRv_R, true_and, and_true, lset_0, lset_1, lset_s, avw_I, avw_L, avw_R, clr_cons, clr_nil, kst_0, kst_1, kstL_0, kstL_1, addk_I, pA_0, pA_s, pD_0, pD_s, wid_nil, wid_cons, rcv_c, putv_I, putv_L, List.length_cons, List.length_nil, List.set_cons_zero, List.set_cons_succ, not_false_eq_true, Nat.reduceMod, Nat.reduceDiv, Nat.reduceEqDiff, Nat.reduceLT, Nat.reduceLeDiff, Nat.reduceAdd, Nat.reduceSub, reduceIte, Nat.lt_irrefl, Nat.zero_ne_one, Nat.one_ne_zero, Nat.zero_add, List.nil_append, List.cons_append, Option.toList_some, Option.toList_none, forall_const, false_implies, true_implies, false_or, or_false, true_or, or_true, i_le, i_lt, i_eq, i_eq0, i_lt0, i_0le, i_0lt, i_le0, i_in1, i_cl, nI_add, pk_mul, pk_sub, i_div, i_rem, i_sh1, i_bit, i_or, i_and, i_andn, nt_le, nf_le, nt_lt, nf_lt, nt_eq, nf_eq, not_true_eq_false, and_self, and_false, false_and, eq_self, Bool.toNat_true, Bool.toNat_false, i_bool, i_bool1, Bool.false_eq_true, Bool.true_eq_false, reduceCtorEq, i_neg1, i_neg2, i_neg3, i_neg4, i_neg5, i_neg6, i_neg7, i_neg8, i_neg9, i_nega, i_negb, i_negc, i_max2, i_min2, hyb, lN_add, wi_nil]
        repeat (
          first
          | refine s_X9_mid_0 ?_
          | refine s_X9_mid_8 ?_
          | refine s_X9_mid_11 ?_
          | refine s_X9_mid_18 ?_
          | refine s_X9_mid_27 ?_
          | refine s_X9_mid_49 ?_
          | refine s_X9_mid_59 ?_
          | refine s_X9_mid_60 ?_
          | refine s_X9_mid_72 ?_
          | refine s_X9_mid_77 ?_
          | refine s_X9_mid_92 ?_
          | refine s_X9_mid_108 ?_
          | refine s_X9_mid_114 ?_
          | refine s_X9_mid_115 ?_
          | refine s_X9_mid_124 ?_
          | refine s_X9_mid_133 ?_
          simp (disch := omega) only [B_X9_mid_0, wi_aload_n, wi_iload_n, wi_iconst, wi_bipush, wi_invokestatic, B_X9_mid_8, wi_invokevirtual, cnt_8, B_X9_mid_11, wi_istore_n, wi_if_ge, wi_ireturn, B_X9_mid_18, wi_getfield, fldv_8_20, fds_8_20, B_X9_mid_27, wi_lconst, wi_lstore, wi_istore, B_X9_mid_34, wi_iload, fldv_8_10, fds_8_10, wi_icmp_ge, B_X9_mid_49, wi_if_eq, wi_isub, wi_goto, B_X9_mid_59, B_X9_mid_60, wi_lload, B_X9_mid_72, B_X9_mid_77, B_X9_mid_92, wi_imul, B_X9_mid_108, wi_iadd, wi_i2l, B_X9_mid_114, B_X9_mid_115, wi_ladd, wi_iinc, B_X9_mid_124, wi_ldc2_w, B_X9_mid_133, no0, no1, nz1, nz2, nz3, nz4, nz5, nz7, nz8, Classical.not_not, bz0, bz1, wi_nil, ld_0, ld_s, isIv_I, isLv_L, isRv_R, true_and, and_true, lset_0, lset_1, lset_s, avw_I, avw_L, avw_R, clr_cons, clr_nil, kst_0, kst_1, kstL_0, kstL_1, addk_I, pA_0, pA_s, pD_0, pD_s, wid_nil, wid_cons, rcv_c, putv_I, putv_L, List.length_cons, List.length_nil, List.set_cons_zero, List.set_cons_succ, not_false_eq_true, Nat.reduceMod, Nat.reduceDiv, Nat.reduceEqDiff, Nat.reduceLT, Nat.reduceLeDiff, Nat.reduceAdd, Nat.reduceSub, reduceIte, Nat.lt_irrefl, Nat.zero_ne_one, Nat.one_ne_zero, Nat.zero_add, List.nil_append, List.cons_append, Option.toList_some, Option.toList_none, forall_const, false_implies, true_implies, false_or, or_false, true_or, or_true, i_le, i_lt, i_eq, i_eq0, i_lt0, i_0le, i_0lt, i_le0, i_in1, i_cl, nI_add, pk_mul, pk_sub, i_div, i_rem, i_sh1, i_bit, i_or, i_and, i_andn, nt_le, nf_le, nt_lt, nf_lt, nt_eq, nf_eq, not_true_eq_false, and_self, and_false, false_and, eq_self, Bool.toNat_true, Bool.toNat_false, i_bool, i_bool1, Bool.false_eq_true, Bool.true_eq_false, reduceCtorEq, i_neg1, i_neg2, i_neg3, i_neg4, i_neg5, i_neg6, i_neg7, i_neg8, i_neg9, i_nega, i_negb, i_negc, i_max2, i_min2, hyb, lN_add])
        exact hnx
    refine s_X9_mid_34 ?_
    simp (disch := omega) only [B_X9_mid_34, wi_iload, wi_aload_n, wi_getfield, fldv_8_10, fds_8_10, cnt_8, wi_icmp_ge, wi_iload_n, wi_invokestatic, no0, no1, nz1, nz2, nz3, nz4, nz5, nz7, nz8, Classical.not_not, bz0, bz1, wi_nil, ld_0, ld_s, isIv_I, isLv_L, isRv_R, true_and, and_true, lset_0, lset_1, lset_s, avw_I, avw_L, avw_R, clr_cons, clr_nil, kst_0, kst_1, kstL_0, kstL_1, addk_I, pA_0, pA_s, pD_0, pD_s, wid_nil, wid_cons, rcv_c, putv_I, putv_L, List.length_cons, List.length_nil, List.set_cons_zero, List.set_cons_succ, not_false_eq_true, Nat.reduceMod, Nat.reduceDiv, Nat.reduceEqDiff, Nat.reduceLT, Nat.reduceLeDiff, Nat.reduceAdd, Nat.reduceSub, reduceIte, Nat.lt_irrefl, Nat.zero_ne_one, Nat.one_ne_zero, Nat.zero_add, List.nil_append, List.cons_append, Option.toList_some, Option.toList_none, forall_const, false_implies, true_implies, false_or, or_false, true_or, or_true, i_le, i_lt, i_eq, i_eq0, i_lt0, i_0le, i_0lt, i_le0, i_in1, i_cl, nI_add, pk_mul, pk_sub, i_div, i_rem, i_sh1, i_bit, i_or, i_and, i_andn, nt_le, nf_le, nt_lt, nf_lt, nt_eq, nf_eq, not_true_eq_false, and_self, and_false, false_and, eq_self, Bool.toNat_true, Bool.toNat_false, i_bool, i_bool1, Bool.false_eq_true, Bool.true_eq_false, reduceCtorEq, i_neg1, i_neg2, i_neg3, i_neg4, i_neg5, i_neg6, i_neg7, i_neg8, i_neg9, i_nega, i_negb, i_negc, i_max2, i_min2, (m_n hm)]
    refine c_has (by omega) (by omega) ?_
    cases hbt : s.testBit i
    · try simp (disch := omega) only [no0, no1, nz1, nz2, nz3, nz4, nz5, nz7, nz8, Classical.not_not, bz0, bz1, wi_nil, ld_0, ld_s, isIv_I, isLv_L, isRv_R, true_and, and_true, lset_0, lset_1, lset_s, avw_I, avw_L, avw_R, clr_cons, clr_nil, kst_0, kst_1, kstL_0, kstL_1, addk_I, pA_0, pA_s, pD_0, pD_s, wid_nil, wid_cons, rcv_c, putv_I, putv_L, List.length_cons, List.length_nil, List.set_cons_zero, List.set_cons_succ, not_false_eq_true, Nat.reduceMod, Nat.reduceDiv, Nat.reduceEqDiff, Nat.reduceLT, Nat.reduceLeDiff, Nat.reduceAdd, Nat.reduceSub, reduceIte, Nat.lt_irrefl, Nat.zero_ne_one, Nat.one_ne_zero, Nat.zero_add, List.nil_append, List.cons_append, Option.toList_some, Option.toList_none, forall_const, false_implies, true_implies, false_or, or_false, true_or, or_true, i_le, i_lt, i_eq, i_eq0, i_lt0, i_0le, i_0lt, i_le0, i_in1, i_cl, nI_add, pk_mul, pk_sub, i_div, i_rem, i_sh1, i_bit, i_or, i_and, i_andn, nt_le, nf_le, nt_lt, nf_lt, nt_eq, nf_eq, not_true_eq_false, and_self, and_false, false_and, eq_self, Bool.toNat_true, Bool.toNat_false, i_bool, i_bool1, Bool.false_eq_true, Bool.true_eq_false, reduceCtorEq, i_neg1, i_neg2, i_neg3, i_neg4, i_neg5, i_neg6, i_neg7, i_neg8, i_neg9, i_nega, i_negb, i_negc, i_max2, i_min2, hbt, wi_nil]
      repeat (
        first
        | refine s_X9_mid_0 ?_
        | refine s_X9_mid_8 ?_
        | refine s_X9_mid_11 ?_
        | refine s_X9_mid_18 ?_
        | refine s_X9_mid_27 ?_
        | refine s_X9_mid_49 ?_
        | refine s_X9_mid_59 ?_
        | refine s_X9_mid_72 ?_
        | refine s_X9_mid_77 ?_
        | refine s_X9_mid_92 ?_
        | refine s_X9_mid_108 ?_
        | refine s_X9_mid_114 ?_
        | refine s_X9_mid_115 ?_
        | refine s_X9_mid_124 ?_
        | refine s_X9_mid_133 ?_
        simp (disch := omega) only [B_X9_mid_0, wi_aload_n, wi_iload_n, wi_iconst, wi_bipush, wi_invokestatic, B_X9_mid_8, wi_invokevirtual, cnt_8, B_X9_mid_11, wi_istore_n, wi_if_ge, wi_ireturn, B_X9_mid_18, wi_getfield, fldv_8_20, fds_8_20, B_X9_mid_27, wi_lconst, wi_lstore, wi_istore, B_X9_mid_34, wi_iload, fldv_8_10, fds_8_10, wi_icmp_ge, B_X9_mid_49, wi_if_eq, wi_isub, wi_goto, B_X9_mid_59, B_X9_mid_60, wi_lload, B_X9_mid_72, B_X9_mid_77, B_X9_mid_92, wi_imul, B_X9_mid_108, wi_iadd, wi_i2l, B_X9_mid_114, B_X9_mid_115, wi_ladd, wi_iinc, B_X9_mid_124, wi_ldc2_w, B_X9_mid_133, no0, no1, nz1, nz2, nz3, nz4, nz5, nz7, nz8, Classical.not_not, bz0, bz1, wi_nil, ld_0, ld_s, isIv_I, isLv_L, isRv_R, true_and, and_true, lset_0, lset_1, lset_s, avw_I, avw_L, avw_R, clr_cons, clr_nil, kst_0, kst_1, kstL_0, kstL_1, addk_I, pA_0, pA_s, pD_0, pD_s, wid_nil, wid_cons, rcv_c, putv_I, putv_L, List.length_cons, List.length_nil, List.set_cons_zero, List.set_cons_succ, not_false_eq_true, Nat.reduceMod, Nat.reduceDiv, Nat.reduceEqDiff, Nat.reduceLT, Nat.reduceLeDiff, Nat.reduceAdd, Nat.reduceSub, reduceIte, Nat.lt_irrefl, Nat.zero_ne_one, Nat.one_ne_zero, Nat.zero_add, List.nil_append, List.cons_append, Option.toList_some, Option.toList_none, forall_const, false_implies, true_implies, false_or, or_false, true_or, or_true, i_le, i_lt, i_eq, i_eq0, i_lt0, i_0le, i_0lt, i_le0, i_in1, i_cl, nI_add, pk_mul, pk_sub, i_div, i_rem, i_sh1, i_bit, i_or, i_and, i_andn, nt_le, nf_le, nt_lt, nf_lt, nt_eq, nf_eq, not_true_eq_false, and_self, and_false, false_and, eq_self, Bool.toNat_true, Bool.toNat_false, i_bool, i_bool1, Bool.false_eq_true, Bool.true_eq_false, reduceCtorEq, i_neg1, i_neg2, i_neg3, i_neg4, i_neg5, i_neg6, i_neg7, i_neg8, i_neg9, i_nega, i_negb, i_negc, i_max2, i_min2, hbt])
      exact key 0 (by rw [hbt]; rfl) (by omega)
    · try simp (disch := omega) only [no0, no1, nz1, nz2, nz3, nz4, nz5, nz7, nz8, Classical.not_not, bz0, bz1, wi_nil, ld_0, ld_s, isIv_I, isLv_L, isRv_R, true_and, and_true, lset_0, lset_1, lset_s, avw_I, avw_L, avw_R, clr_cons, clr_nil, kst_0, kst_1, kstL_0, kstL_1, addk_I, pA_0, pA_s, pD_0, pD_s, wid_nil, wid_cons, rcv_c, putv_I, putv_L, List.length_cons, List.length_nil, List.set_cons_zero, List.set_cons_succ, not_false_eq_true, Nat.reduceMod, Nat.reduceDiv, Nat.reduceEqDiff, Nat.reduceLT, Nat.reduceLeDiff, Nat.reduceAdd, Nat.reduceSub, reduceIte, Nat.lt_irrefl, Nat.zero_ne_one, Nat.one_ne_zero, Nat.zero_add, List.nil_append, List.cons_append, Option.toList_some, Option.toList_none, forall_const, false_implies, true_implies, false_or, or_false, true_or, or_true, i_le, i_lt, i_eq, i_eq0, i_lt0, i_0le, i_0lt, i_le0, i_in1, i_cl, nI_add, pk_mul, pk_sub, i_div, i_rem, i_sh1, i_bit, i_or, i_and, i_andn, nt_le, nf_le, nt_lt, nf_lt, nt_eq, nf_eq, not_true_eq_false, and_self, and_false, false_and, eq_self, Bool.toNat_true, Bool.toNat_false, i_bool, i_bool1, Bool.false_eq_true, Bool.true_eq_false, reduceCtorEq, i_neg1, i_neg2, i_neg3, i_neg4, i_neg5, i_neg6, i_neg7, i_neg8, i_neg9, i_nega, i_negb, i_negc, i_max2, i_min2, hbt, wi_nil]
      repeat (
        first
        | refine s_X9_mid_0 ?_
        | refine s_X9_mid_8 ?_
        | refine s_X9_mid_11 ?_
        | refine s_X9_mid_18 ?_
        | refine s_X9_mid_27 ?_
        | refine s_X9_mid_49 ?_
        | refine s_X9_mid_59 ?_
        | refine s_X9_mid_72 ?_
        | refine s_X9_mid_77 ?_
        | refine s_X9_mid_92 ?_
        | refine s_X9_mid_108 ?_
        | refine s_X9_mid_114 ?_
        | refine s_X9_mid_115 ?_
        | refine s_X9_mid_124 ?_
        | refine s_X9_mid_133 ?_
        simp (disch := omega) only [B_X9_mid_0, wi_aload_n, wi_iload_n, wi_iconst, wi_bipush, wi_invokestatic, B_X9_mid_8, wi_invokevirtual, cnt_8, B_X9_mid_11, wi_istore_n, wi_if_ge, wi_ireturn, B_X9_mid_18, wi_getfield, fldv_8_20, fds_8_20, B_X9_mid_27, wi_lconst, wi_lstore, wi_istore, B_X9_mid_34, wi_iload, fldv_8_10, fds_8_10, wi_icmp_ge, B_X9_mid_49, wi_if_eq, wi_isub, wi_goto, B_X9_mid_59, B_X9_mid_60, wi_lload, B_X9_mid_72, B_X9_mid_77, B_X9_mid_92, wi_imul, B_X9_mid_108, wi_iadd, wi_i2l, B_X9_mid_114, B_X9_mid_115, wi_ladd, wi_iinc, B_X9_mid_124, wi_ldc2_w, B_X9_mid_133, no0, no1, nz1, nz2, nz3, nz4, nz5, nz7, nz8, Classical.not_not, bz0, bz1, wi_nil, ld_0, ld_s, isIv_I, isLv_L, isRv_R, true_and, and_true, lset_0, lset_1, lset_s, avw_I, avw_L, avw_R, clr_cons, clr_nil, kst_0, kst_1, kstL_0, kstL_1, addk_I, pA_0, pA_s, pD_0, pD_s, wid_nil, wid_cons, rcv_c, putv_I, putv_L, List.length_cons, List.length_nil, List.set_cons_zero, List.set_cons_succ, not_false_eq_true, Nat.reduceMod, Nat.reduceDiv, Nat.reduceEqDiff, Nat.reduceLT, Nat.reduceLeDiff, Nat.reduceAdd, Nat.reduceSub, reduceIte, Nat.lt_irrefl, Nat.zero_ne_one, Nat.one_ne_zero, Nat.zero_add, List.nil_append, List.cons_append, Option.toList_some, Option.toList_none, forall_const, false_implies, true_implies, false_or, or_false, true_or, or_true, i_le, i_lt, i_eq, i_eq0, i_lt0, i_0le, i_0lt, i_le0, i_in1, i_cl, nI_add, pk_mul, pk_sub, i_div, i_rem, i_sh1, i_bit, i_or, i_and, i_andn, nt_le, nf_le, nt_lt, nf_lt, nt_eq, nf_eq, not_true_eq_false, and_self, and_false, false_and, eq_self, Bool.toNat_true, Bool.toNat_false, i_bool, i_bool1, Bool.false_eq_true, Bool.true_eq_false, reduceCtorEq, i_neg1, i_neg2, i_neg3, i_neg4, i_neg5, i_neg6, i_neg7, i_neg8, i_neg9, i_nega, i_negb, i_negc, i_max2, i_min2, hbt])
      exact key (12 - p) (by rw [hbt, if_pos rfl]; omega) (by omega)
theorem o_mid {v : Int32} (h : Rr S) : wpM (d + 10) mX8_mid [aR 7 0, aI v] S (PX d mX9_mid [aI v]) := by
  obtain ⟨Y, hy, hok, hm⟩ := r_year h
  have hn5 := hok.1.1
  cases hv : inB v 13
  · have key : wpM (d + 10) mX9_mid [aR 8 0, aI v] S (PM (-nI 1)) := by
      refine x_entry (ls2 := [aR 8 0, aI v, aU, aU, aU, aU, aU, aU]) (Nat.le_of_ble_eq_true rfl) pl_9 rfl (Nat.le_of_ble_eq_true rfl) ?_
      try simp (disch := omega) only [no0, no1, nz1, nz2, nz3, nz4, nz5, nz7, nz8, Classical.not_not, bz0, bz1, wi_nil, ld_0, ld_s, isIv_I, isLv_L, isRv_R, true_and, and_true, lset_0, lset_1, lset_s, avw_I, avw_L, avw_R, clr_cons, clr_nil, kst_0, kst_1, kstL_0, kstL_1, addk_I, pA_0, pA_s, pD_0, pD_s, wid_nil, wid_cons, rcv_c, putv_I, putv_L, List.length_cons, List.length_nil, List.set_cons_zero, List.set_cons_succ, not_false_eq_true, Nat.reduceMod, Nat.reduceDiv, Nat.reduceEqDiff, Nat.reduceLT, Nat.reduceLeDiff, Nat.reduceAdd, Nat.reduceSub, reduceIte, Nat.lt_irrefl, Nat.zero_ne_one, Nat.one_ne_zero, Nat.zero_add, List.nil_append, List.cons_append, Option.toList_some, Option.toList_none, forall_const, false_implies, true_implies, false_or, or_false, true_or, or_true, i_le, i_lt, i_eq, i_eq0, i_lt0, i_0le, i_0lt, i_le0, i_in1, i_cl, nI_add, pk_mul, pk_sub, i_div, i_rem, i_sh1, i_bit, i_or, i_and, i_andn, nt_le, nf_le, nt_lt, nf_lt, nt_eq, nf_eq, not_true_eq_false, and_self, and_false, false_and, eq_self, Bool.toNat_true, Bool.toNat_false, i_bool, i_bool1, Bool.false_eq_true, Bool.true_eq_false, reduceCtorEq, i_neg1, i_neg2, i_neg3, i_neg4, i_neg5, i_neg6, i_neg7, i_neg8, i_neg9, i_nega, i_negb, i_negc, i_max2, i_min2, wi_nil]
      repeat (
        first
        | refine s_X9_mid_0 ?_
        | refine s_X9_mid_8 ?_
        | refine s_X9_mid_11 ?_
        | refine s_X9_mid_18 ?_
        | refine s_X9_mid_27 ?_
        | refine s_X9_mid_49 ?_
        | refine s_X9_mid_59 ?_
        | refine s_X9_mid_60 ?_
        | refine s_X9_mid_72 ?_
        | refine s_X9_mid_77 ?_
        | refine s_X9_mid_92 ?_
        | refine s_X9_mid_108 ?_
        | refine s_X9_mid_114 ?_
        | refine s_X9_mid_115 ?_
        | refine s_X9_mid_124 ?_
        | refine s_X9_mid_133 ?_
        simp (disch := omega) only [B_X9_mid_0, wi_aload_n, wi_iload_n, wi_iconst, wi_bipush, wi_invokestatic, B_X9_mid_8, wi_invokevirtual, cnt_8, B_X9_mid_11, wi_istore_n, wi_if_ge, wi_ireturn, B_X9_mid_18, wi_getfield, fldv_8_20, fds_8_20, B_X9_mid_27, wi_lconst, wi_lstore, wi_istore, B_X9_mid_34, wi_iload, fldv_8_10, fds_8_10, wi_icmp_ge, B_X9_mid_49, wi_if_eq, wi_isub, wi_goto, B_X9_mid_59, B_X9_mid_60, wi_lload, B_X9_mid_72, B_X9_mid_77, B_X9_mid_92, wi_imul, B_X9_mid_108, wi_iadd, wi_i2l, B_X9_mid_114, B_X9_mid_115, wi_ladd, wi_iinc, B_X9_mid_124, wi_ldc2_w, B_X9_mid_133, no0, no1, nz1, nz2, nz3, nz4, nz5, nz7, nz8, Classical.not_not, bz0, bz1, wi_nil, ld_0, ld_s, isIv_I, isLv_L, isRv_R, true_and, and_true, lset_0, lset_1, lset_s, avw_I, avw_L, avw_R, clr_cons, clr_nil, kst_0, kst_1, kstL_0, kstL_1, addk_I, pA_0, pA_s, pD_0, pD_s, wid_nil, wid_cons, rcv_c, putv_I, putv_L, List.length_cons, List.length_nil, List.set_cons_zero, List.set_cons_succ, not_false_eq_true, Nat.reduceMod, Nat.reduceDiv, Nat.reduceEqDiff, Nat.reduceLT, Nat.reduceLeDiff, Nat.reduceAdd, Nat.reduceSub, reduceIte, Nat.lt_irrefl, Nat.zero_ne_one, Nat.one_ne_zero, Nat.zero_add, List.nil_append, List.cons_append, Option.toList_some, Option.toList_none, forall_const, false_implies, true_implies, false_or, or_false, true_or, or_true, i_le, i_lt, i_eq, i_eq0, i_lt0, i_0le, i_0lt, i_le0, i_in1, i_cl, nI_add, pk_mul, pk_sub, i_div, i_rem, i_sh1, i_bit, i_or, i_and, i_andn, nt_le, nf_le, nt_lt, nf_lt, nt_eq, nf_eq, not_true_eq_false, and_self, and_false, false_and, eq_self, Bool.toNat_true, Bool.toNat_false, i_bool, i_bool1, Bool.false_eq_true, Bool.true_eq_false, reduceCtorEq, i_neg1, i_neg2, i_neg3, i_neg4, i_neg5, i_neg6, i_neg7, i_neg8, i_neg9, i_nega, i_negb, i_negc, i_max2, i_min2])
      refine c_in (inb_le (N := 12) (by decide)) ?_
      try simp (disch := omega) only [no0, no1, nz1, nz2, nz3, nz4, nz5, nz7, nz8, Classical.not_not, bz0, bz1, wi_nil, ld_0, ld_s, isIv_I, isLv_L, isRv_R, true_and, and_true, lset_0, lset_1, lset_s, avw_I, avw_L, avw_R, clr_cons, clr_nil, kst_0, kst_1, kstL_0, kstL_1, addk_I, pA_0, pA_s, pD_0, pD_s, wid_nil, wid_cons, rcv_c, putv_I, putv_L, List.length_cons, List.length_nil, List.set_cons_zero, List.set_cons_succ, not_false_eq_true, Nat.reduceMod, Nat.reduceDiv, Nat.reduceEqDiff, Nat.reduceLT, Nat.reduceLeDiff, Nat.reduceAdd, Nat.reduceSub, reduceIte, Nat.lt_irrefl, Nat.zero_ne_one, Nat.one_ne_zero, Nat.zero_add, List.nil_append, List.cons_append, Option.toList_some, Option.toList_none, forall_const, false_implies, true_implies, false_or, or_false, true_or, or_true, i_le, i_lt, i_eq, i_eq0, i_lt0, i_0le, i_0lt, i_le0, i_in1, i_cl, nI_add, pk_mul, pk_sub, i_div, i_rem, i_sh1, i_bit, i_or, i_and, i_andn, nt_le, nf_le, nt_lt, nf_lt, nt_eq, nf_eq, not_true_eq_false, and_self, and_false, false_and, eq_self, Bool.toNat_true, Bool.toNat_false, i_bool, i_bool1, Bool.false_eq_true, Bool.true_eq_false, reduceCtorEq, i_neg1, i_neg2, i_neg3, i_neg4, i_neg5, i_neg6, i_neg7, i_neg8, i_neg9, i_nega, i_negb, i_negc, i_max2, i_min2, hv, wi_nil]
      repeat (
        first
        | refine s_X9_mid_0 ?_
        | refine s_X9_mid_8 ?_
        | refine s_X9_mid_11 ?_
        | refine s_X9_mid_18 ?_
        | refine s_X9_mid_27 ?_
        | refine s_X9_mid_49 ?_
        | refine s_X9_mid_59 ?_
        | refine s_X9_mid_60 ?_
        | refine s_X9_mid_72 ?_
        | refine s_X9_mid_77 ?_
        | refine s_X9_mid_92 ?_
        | refine s_X9_mid_108 ?_
        | refine s_X9_mid_114 ?_
        | refine s_X9_mid_115 ?_
        | refine s_X9_mid_124 ?_
        | refine s_X9_mid_133 ?_
        simp (disch := omega) only [B_X9_mid_0, wi_aload_n, wi_iload_n, wi_iconst, wi_bipush, wi_invokestatic, B_X9_mid_8, wi_invokevirtual, cnt_8, B_X9_mid_11, wi_istore_n, wi_if_ge, wi_ireturn, B_X9_mid_18, wi_getfield, fldv_8_20, fds_8_20, B_X9_mid_27, wi_lconst, wi_lstore, wi_istore, B_X9_mid_34, wi_iload, fldv_8_10, fds_8_10, wi_icmp_ge, B_X9_mid_49, wi_if_eq, wi_isub, wi_goto, B_X9_mid_59, B_X9_mid_60, wi_lload, B_X9_mid_72, B_X9_mid_77, B_X9_mid_92, wi_imul, B_X9_mid_108, wi_iadd, wi_i2l, B_X9_mid_114, B_X9_mid_115, wi_ladd, wi_iinc, B_X9_mid_124, wi_ldc2_w, B_X9_mid_133, no0, no1, nz1, nz2, nz3, nz4, nz5, nz7, nz8, Classical.not_not, bz0, bz1, wi_nil, ld_0, ld_s, isIv_I, isLv_L, isRv_R, true_and, and_true, lset_0, lset_1, lset_s, avw_I, avw_L, avw_R, clr_cons, clr_nil, kst_0, kst_1, kstL_0, kstL_1, addk_I, pA_0, pA_s, pD_0, pD_s, wid_nil, wid_cons, rcv_c, putv_I, putv_L, List.length_cons, List.length_nil, List.set_cons_zero, List.set_cons_succ, not_false_eq_true, Nat.reduceMod, Nat.reduceDiv, Nat.reduceEqDiff, Nat.reduceLT, Nat.reduceLeDiff, Nat.reduceAdd, Nat.reduceSub, reduceIte, Nat.lt_irrefl, Nat.zero_ne_one, Nat.one_ne_zero, Nat.zero_add, List.nil_append, List.cons_append, Option.toList_some, Option.toList_none, forall_const, false_implies, true_implies, false_or, or_false, true_or, or_true, i_le, i_lt, i_eq, i_eq0, i_lt0, i_0le, i_0lt, i_le0, i_in1, i_cl, nI_add, pk_mul, pk_sub, i_div, i_rem, i_sh1, i_bit, i_or, i_and, i_andn, nt_le, nf_le, nt_lt, nf_lt, nt_eq, nf_eq, not_true_eq_false, and_self, and_false, false_and, eq_self, Bool.toNat_true, Bool.toNat_false, i_bool, i_bool1, Bool.false_eq_true, Bool.true_eq_false, reduceCtorEq, i_neg1, i_neg2, i_neg3, i_neg4, i_neg5, i_neg6, i_neg7, i_neg8, i_neg9, i_nega, i_negb, i_negc, i_max2, i_min2, hv])
      refine c_need0 hm hn5 ?_
      try simp (disch := omega) only [no0, no1, nz1, nz2, nz3, nz4, nz5, nz7, nz8, Classical.not_not, bz0, bz1, wi_nil, ld_0, ld_s, isIv_I, isLv_L, isRv_R, true_and, and_true, lset_0, lset_1, lset_s, avw_I, avw_L, avw_R, clr_cons, clr_nil, kst_0, kst_1, kstL_0, kstL_1, addk_I, pA_0, pA_s, pD_0, pD_s, wid_nil, wid_cons, rcv_c, putv_I, putv_L, List.length_cons, List.length_nil, List.set_cons_zero, List.set_cons_succ, not_false_eq_true, Nat.reduceMod, Nat.reduceDiv, Nat.reduceEqDiff, Nat.reduceLT, Nat.reduceLeDiff, Nat.reduceAdd, Nat.reduceSub, reduceIte, Nat.lt_irrefl, Nat.zero_ne_one, Nat.one_ne_zero, Nat.zero_add, List.nil_append, List.cons_append, Option.toList_some, Option.toList_none, forall_const, false_implies, true_implies, false_or, or_false, true_or, or_true, i_le, i_lt, i_eq, i_eq0, i_lt0, i_0le, i_0lt, i_le0, i_in1, i_cl, nI_add, pk_mul, pk_sub, i_div, i_rem, i_sh1, i_bit, i_or, i_and, i_andn, nt_le, nf_le, nt_lt, nf_lt, nt_eq, nf_eq, not_true_eq_false, and_self, and_false, false_and, eq_self, Bool.toNat_true, Bool.toNat_false, i_bool, i_bool1, Bool.false_eq_true, Bool.true_eq_false, reduceCtorEq, i_neg1, i_neg2, i_neg3, i_neg4, i_neg5, i_neg6, i_neg7, i_neg8, i_neg9, i_nega, i_negb, i_negc, i_max2, i_min2, wi_nil]
      repeat (
        first
        | refine s_X9_mid_0 ?_
        | refine s_X9_mid_8 ?_
        | refine s_X9_mid_11 ?_
        | refine s_X9_mid_18 ?_
        | refine s_X9_mid_27 ?_
        | refine s_X9_mid_49 ?_
        | refine s_X9_mid_59 ?_
        | refine s_X9_mid_60 ?_
        | refine s_X9_mid_72 ?_
        | refine s_X9_mid_77 ?_
        | refine s_X9_mid_92 ?_
        | refine s_X9_mid_108 ?_
        | refine s_X9_mid_114 ?_
        | refine s_X9_mid_115 ?_
        | refine s_X9_mid_124 ?_
        | refine s_X9_mid_133 ?_
        simp (disch := omega) only [B_X9_mid_0, wi_aload_n, wi_iload_n, wi_iconst, wi_bipush, wi_invokestatic, B_X9_mid_8, wi_invokevirtual, cnt_8, B_X9_mid_11, wi_istore_n, wi_if_ge, wi_ireturn, B_X9_mid_18, wi_getfield, fldv_8_20, fds_8_20, B_X9_mid_27, wi_lconst, wi_lstore, wi_istore, B_X9_mid_34, wi_iload, fldv_8_10, fds_8_10, wi_icmp_ge, B_X9_mid_49, wi_if_eq, wi_isub, wi_goto, B_X9_mid_59, B_X9_mid_60, wi_lload, B_X9_mid_72, B_X9_mid_77, B_X9_mid_92, wi_imul, B_X9_mid_108, wi_iadd, wi_i2l, B_X9_mid_114, B_X9_mid_115, wi_ladd, wi_iinc, B_X9_mid_124, wi_ldc2_w, B_X9_mid_133, no0, no1, nz1, nz2, nz3, nz4, nz5, nz7, nz8, Classical.not_not, bz0, bz1, wi_nil, ld_0, ld_s, isIv_I, isLv_L, isRv_R, true_and, and_true, lset_0, lset_1, lset_s, avw_I, avw_L, avw_R, clr_cons, clr_nil, kst_0, kst_1, kstL_0, kstL_1, addk_I, pA_0, pA_s, pD_0, pD_s, wid_nil, wid_cons, rcv_c, putv_I, putv_L, List.length_cons, List.length_nil, List.set_cons_zero, List.set_cons_succ, not_false_eq_true, Nat.reduceMod, Nat.reduceDiv, Nat.reduceEqDiff, Nat.reduceLT, Nat.reduceLeDiff, Nat.reduceAdd, Nat.reduceSub, reduceIte, Nat.lt_irrefl, Nat.zero_ne_one, Nat.one_ne_zero, Nat.zero_add, List.nil_append, List.cons_append, Option.toList_some, Option.toList_none, forall_const, false_implies, true_implies, false_or, or_false, true_or, or_true, i_le, i_lt, i_eq, i_eq0, i_lt0, i_0le, i_0lt, i_le0, i_in1, i_cl, nI_add, pk_mul, pk_sub, i_div, i_rem, i_sh1, i_bit, i_or, i_and, i_andn, nt_le, nf_le, nt_lt, nf_lt, nt_eq, nf_eq, not_true_eq_false, and_self, and_false, false_and, eq_self, Bool.toNat_true, Bool.toNat_false, i_bool, i_bool1, Bool.false_eq_true, Bool.true_eq_false, reduceCtorEq, i_neg1, i_neg2, i_neg3, i_neg4, i_neg5, i_neg6, i_neg7, i_neg8, i_neg9, i_nega, i_negb, i_negc, i_max2, i_min2])
      exact pm h
    rcases off_gt (N := 12) (by decide) hv with a | ⟨a, b, -⟩
    · refine x_entry (ls2 := [aR 7 0, aI v, aU, aU, aU, aU, aU]) (Nat.le_of_ble_eq_true rfl) pl_8 rfl (Nat.le_of_ble_eq_true rfl) ?_
      try simp (disch := omega) only [no0, no1, nz1, nz2, nz3, nz4, nz5, nz7, nz8, Classical.not_not, bz0, bz1, wi_nil, ld_0, ld_s, isIv_I, isLv_L, isRv_R, true_and, and_true, lset_0, lset_1, lset_s, avw_I, avw_L, avw_R, clr_cons, clr_nil, kst_0, kst_1, kstL_0, kstL_1, addk_I, pA_0, pA_s, pD_0, pD_s, wid_nil, wid_cons, rcv_c, putv_I, putv_L, List.length_cons, List.length_nil, List.set_cons_zero, List.set_cons_succ, not_false_eq_true, Nat.reduceMod, Nat.reduceDiv, Nat.reduceEqDiff, Nat.reduceLT, Nat.reduceLeDiff, Nat.reduceAdd, Nat.reduceSub, reduceIte, Nat.lt_irrefl, Nat.zero_ne_one, Nat.one_ne_zero, Nat.zero_add, List.nil_append, List.cons_append, Option.toList_some, Option.toList_none, forall_const, false_implies, true_implies, false_or, or_false, true_or, or_true, i_le, i_lt, i_eq, i_eq0, i_lt0, i_0le, i_0lt, i_le0, i_in1, i_cl, nI_add, pk_mul, pk_sub, i_div, i_rem, i_sh1, i_bit, i_or, i_and, i_andn, nt_le, nf_le, nt_lt, nf_lt, nt_eq, nf_eq, not_true_eq_false, and_self, and_false, false_and, eq_self, Bool.toNat_true, Bool.toNat_false, i_bool, i_bool1, Bool.false_eq_true, Bool.true_eq_false, reduceCtorEq, i_neg1, i_neg2, i_neg3, i_neg4, i_neg5, i_neg6, i_neg7, i_neg8, i_neg9, i_nega, i_negb, i_negc, i_max2, i_min2, a, wi_nil]
      repeat (
        first
        | refine s_X8_mid_0 ?_
        | refine s_X8_mid_10 ?_
        | refine s_X8_mid_12 ?_
        | refine s_X8_mid_25 ?_
        | refine s_X8_mid_33 ?_
        | refine s_X8_mid_60 ?_
        | refine s_X8_mid_77 ?_
        | refine s_X8_mid_79 ?_
        | refine s_X8_mid_107 ?_
        | refine s_X8_mid_140 ?_
        | refine s_X8_mid_144 ?_
        | refine s_X8_mid_150 ?_
        | refine s_X8_mid_161 ?_
        simp (disch := omega) only [B_X8_mid_0, wi_iload_n, wi_if_lt, wi_bipush, wi_icmp_le, B_X8_mid_10, wi_iconst, wi_ireturn, B_X8_mid_12, wi_aload_n, wi_getfield, fldv_7_3, fds_7_3, cnt_7, fldv_6_7, fds_6_7, cnt_6, wi_if_ne, B_X8_mid_25, wi_invokevirtual, B_X8_mid_33, wi_istore_n, wi_lconst, wi_lstore_n, wi_istore, B_X8_mid_39, wi_iload, wi_icmp_ge, B_X8_mid_60, wi_ishr, wi_iand, wi_icmp_ne, wi_goto, B_X8_mid_77, B_X8_mid_79, wi_lload_n, fldv_6_0, fds_6_0, wi_iaload, fldv_6_2, fds_6_2, wi_invokestatic, cnt_20, aTy_20, aLn_20, arr_20, cnt_22, aTy_22, aLn_22, arr_22, B_X8_mid_107, wi_imul, wi_i2l, wi_ladd, wi_isub, B_X8_mid_140, B_X8_mid_144, wi_iinc, B_X8_mid_150, fldv_7_8, fds_7_8, wi_ldc2_w, cnt_4, B_X8_mid_161, no0, no1, nz1, nz2, nz3, nz4, nz5, nz7, nz8, Classical.not_not, bz0, bz1, wi_nil, ld_0, ld_s, isIv_I, isLv_L, isRv_R, true_and, and_true, lset_0, lset_1, lset_s, avw_I, avw_L, avw_R, clr_cons, clr_nil, kst_0, kst_1, kstL_0, kstL_1, addk_I, pA_0, pA_s, pD_0, pD_s, wid_nil, wid_cons, rcv_c, putv_I, putv_L, List.length_cons, List.length_nil, List.set_cons_zero, List.set_cons_succ, not_false_eq_true, Nat.reduceMod, Nat.reduceDiv, Nat.reduceEqDiff, Nat.reduceLT, Nat.reduceLeDiff, Nat.reduceAdd, Nat.reduceSub, reduceIte, Nat.lt_irrefl, Nat.zero_ne_one, Nat.one_ne_zero, Nat.zero_add, List.nil_append, List.cons_append, Option.toList_some, Option.toList_none, forall_const, false_implies, true_implies, false_or, or_false, true_or, or_true, i_le, i_lt, i_eq, i_eq0, i_lt0, i_0le, i_0lt, i_le0, i_in1, i_cl, nI_add, pk_mul, pk_sub, i_div, i_rem, i_sh1, i_bit, i_or, i_and, i_andn, nt_le, nf_le, nt_lt, nf_lt, nt_eq, nf_eq, not_true_eq_false, and_self, and_false, false_and, eq_self, Bool.toNat_true, Bool.toNat_false, i_bool, i_bool1, Bool.false_eq_true, Bool.true_eq_false, reduceCtorEq, i_neg1, i_neg2, i_neg3, i_neg4, i_neg5, i_neg6, i_neg7, i_neg8, i_neg9, i_nega, i_negb, i_negc, i_max2, i_min2, a])
      exact px key
    · refine x_entry (ls2 := [aR 7 0, aI v, aU, aU, aU, aU, aU]) (Nat.le_of_ble_eq_true rfl) pl_8 rfl (Nat.le_of_ble_eq_true rfl) ?_
      try simp (disch := omega) only [no0, no1, nz1, nz2, nz3, nz4, nz5, nz7, nz8, Classical.not_not, bz0, bz1, wi_nil, ld_0, ld_s, isIv_I, isLv_L, isRv_R, true_and, and_true, lset_0, lset_1, lset_s, avw_I, avw_L, avw_R, clr_cons, clr_nil, kst_0, kst_1, kstL_0, kstL_1, addk_I, pA_0, pA_s, pD_0, pD_s, wid_nil, wid_cons, rcv_c, putv_I, putv_L, List.length_cons, List.length_nil, List.set_cons_zero, List.set_cons_succ, not_false_eq_true, Nat.reduceMod, Nat.reduceDiv, Nat.reduceEqDiff, Nat.reduceLT, Nat.reduceLeDiff, Nat.reduceAdd, Nat.reduceSub, reduceIte, Nat.lt_irrefl, Nat.zero_ne_one, Nat.one_ne_zero, Nat.zero_add, List.nil_append, List.cons_append, Option.toList_some, Option.toList_none, forall_const, false_implies, true_implies, false_or, or_false, true_or, or_true, i_le, i_lt, i_eq, i_eq0, i_lt0, i_0le, i_0lt, i_le0, i_in1, i_cl, nI_add, pk_mul, pk_sub, i_div, i_rem, i_sh1, i_bit, i_or, i_and, i_andn, nt_le, nf_le, nt_lt, nf_lt, nt_eq, nf_eq, not_true_eq_false, and_self, and_false, false_and, eq_self, Bool.toNat_true, Bool.toNat_false, i_bool, i_bool1, Bool.false_eq_true, Bool.true_eq_false, reduceCtorEq, i_neg1, i_neg2, i_neg3, i_neg4, i_neg5, i_neg6, i_neg7, i_neg8, i_neg9, i_nega, i_negb, i_negc, i_max2, i_min2, a, b, wi_nil]
      repeat (
        first
        | refine s_X8_mid_0 ?_
        | refine s_X8_mid_10 ?_
        | refine s_X8_mid_12 ?_
        | refine s_X8_mid_25 ?_
        | refine s_X8_mid_33 ?_
        | refine s_X8_mid_60 ?_
        | refine s_X8_mid_77 ?_
        | refine s_X8_mid_79 ?_
        | refine s_X8_mid_107 ?_
        | refine s_X8_mid_140 ?_
        | refine s_X8_mid_144 ?_
        | refine s_X8_mid_150 ?_
        | refine s_X8_mid_161 ?_
        simp (disch := omega) only [B_X8_mid_0, wi_iload_n, wi_if_lt, wi_bipush, wi_icmp_le, B_X8_mid_10, wi_iconst, wi_ireturn, B_X8_mid_12, wi_aload_n, wi_getfield, fldv_7_3, fds_7_3, cnt_7, fldv_6_7, fds_6_7, cnt_6, wi_if_ne, B_X8_mid_25, wi_invokevirtual, B_X8_mid_33, wi_istore_n, wi_lconst, wi_lstore_n, wi_istore, B_X8_mid_39, wi_iload, wi_icmp_ge, B_X8_mid_60, wi_ishr, wi_iand, wi_icmp_ne, wi_goto, B_X8_mid_77, B_X8_mid_79, wi_lload_n, fldv_6_0, fds_6_0, wi_iaload, fldv_6_2, fds_6_2, wi_invokestatic, cnt_20, aTy_20, aLn_20, arr_20, cnt_22, aTy_22, aLn_22, arr_22, B_X8_mid_107, wi_imul, wi_i2l, wi_ladd, wi_isub, B_X8_mid_140, B_X8_mid_144, wi_iinc, B_X8_mid_150, fldv_7_8, fds_7_8, wi_ldc2_w, cnt_4, B_X8_mid_161, no0, no1, nz1, nz2, nz3, nz4, nz5, nz7, nz8, Classical.not_not, bz0, bz1, wi_nil, ld_0, ld_s, isIv_I, isLv_L, isRv_R, true_and, and_true, lset_0, lset_1, lset_s, avw_I, avw_L, avw_R, clr_cons, clr_nil, kst_0, kst_1, kstL_0, kstL_1, addk_I, pA_0, pA_s, pD_0, pD_s, wid_nil, wid_cons, rcv_c, putv_I, putv_L, List.length_cons, List.length_nil, List.set_cons_zero, List.set_cons_succ, not_false_eq_true, Nat.reduceMod, Nat.reduceDiv, Nat.reduceEqDiff, Nat.reduceLT, Nat.reduceLeDiff, Nat.reduceAdd, Nat.reduceSub, reduceIte, Nat.lt_irrefl, Nat.zero_ne_one, Nat.one_ne_zero, Nat.zero_add, List.nil_append, List.cons_append, Option.toList_some, Option.toList_none, forall_const, false_implies, true_implies, false_or, or_false, true_or, or_true, i_le, i_lt, i_eq, i_eq0, i_lt0, i_0le, i_0lt, i_le0, i_in1, i_cl, nI_add, pk_mul, pk_sub, i_div, i_rem, i_sh1, i_bit, i_or, i_and, i_andn, nt_le, nf_le, nt_lt, nf_lt, nt_eq, nf_eq, not_true_eq_false, and_self, and_false, false_and, eq_self, Bool.toNat_true, Bool.toNat_false, i_bool, i_bool1, Bool.false_eq_true, Bool.true_eq_false, reduceCtorEq, i_neg1, i_neg2, i_neg3, i_neg4, i_neg5, i_neg6, i_neg7, i_neg8, i_neg9, i_nega, i_negb, i_negc, i_max2, i_min2, a, b])
      exact px key
  · obtain ⟨v, hv2, rfl⟩ := inb_nat hv
    rcases Nat.eq_zero_or_pos (Y 6 0) with e0 | e0
    · refine x_entry (ls2 := [aR 7 0, aI (nI v), aU, aU, aU, aU, aU]) (Nat.le_of_ble_eq_true rfl) pl_8 rfl (Nat.le_of_ble_eq_true rfl) ?_
      try simp (disch := omega) only [no0, no1, nz1, nz2, nz3, nz4, nz5, nz7, nz8, Classical.not_not, bz0, bz1, wi_nil, ld_0, ld_s, isIv_I, isLv_L, isRv_R, true_and, and_true, lset_0, lset_1, lset_s, avw_I, avw_L, avw_R, clr_cons, clr_nil, kst_0, kst_1, kstL_0, kstL_1, addk_I, pA_0, pA_s, pD_0, pD_s, wid_nil, wid_cons, rcv_c, putv_I, putv_L, List.length_cons, List.length_nil, List.set_cons_zero, List.set_cons_succ, not_false_eq_true, Nat.reduceMod, Nat.reduceDiv, Nat.reduceEqDiff, Nat.reduceLT, Nat.reduceLeDiff, Nat.reduceAdd, Nat.reduceSub, reduceIte, Nat.lt_irrefl, Nat.zero_ne_one, Nat.one_ne_zero, Nat.zero_add, List.nil_append, List.cons_append, Option.toList_some, Option.toList_none, forall_const, false_implies, true_implies, false_or, or_false, true_or, or_true, i_le, i_lt, i_eq, i_eq0, i_lt0, i_0le, i_0lt, i_le0, i_in1, i_cl, nI_add, pk_mul, pk_sub, i_div, i_rem, i_sh1, i_bit, i_or, i_and, i_andn, nt_le, nf_le, nt_lt, nf_lt, nt_eq, nf_eq, not_true_eq_false, and_self, and_false, false_and, eq_self, Bool.toNat_true, Bool.toNat_false, i_bool, i_bool1, Bool.false_eq_true, Bool.true_eq_false, reduceCtorEq, i_neg1, i_neg2, i_neg3, i_neg4, i_neg5, i_neg6, i_neg7, i_neg8, i_neg9, i_nega, i_negb, i_negc, i_max2, i_min2, (y_n hy), wi_nil]
      repeat (
        first
        | refine s_X8_mid_0 ?_
        | refine s_X8_mid_10 ?_
        | refine s_X8_mid_12 ?_
        | refine s_X8_mid_25 ?_
        | refine s_X8_mid_33 ?_
        | refine s_X8_mid_60 ?_
        | refine s_X8_mid_77 ?_
        | refine s_X8_mid_79 ?_
        | refine s_X8_mid_107 ?_
        | refine s_X8_mid_140 ?_
        | refine s_X8_mid_144 ?_
        | refine s_X8_mid_150 ?_
        | refine s_X8_mid_161 ?_
        simp (disch := omega) only [B_X8_mid_0, wi_iload_n, wi_if_lt, wi_bipush, wi_icmp_le, B_X8_mid_10, wi_iconst, wi_ireturn, B_X8_mid_12, wi_aload_n, wi_getfield, fldv_7_3, fds_7_3, cnt_7, fldv_6_7, fds_6_7, cnt_6, wi_if_ne, B_X8_mid_25, wi_invokevirtual, B_X8_mid_33, wi_istore_n, wi_lconst, wi_lstore_n, wi_istore, B_X8_mid_39, wi_iload, wi_icmp_ge, B_X8_mid_60, wi_ishr, wi_iand, wi_icmp_ne, wi_goto, B_X8_mid_77, B_X8_mid_79, wi_lload_n, fldv_6_0, fds_6_0, wi_iaload, fldv_6_2, fds_6_2, wi_invokestatic, cnt_20, aTy_20, aLn_20, arr_20, cnt_22, aTy_22, aLn_22, arr_22, B_X8_mid_107, wi_imul, wi_i2l, wi_ladd, wi_isub, B_X8_mid_140, B_X8_mid_144, wi_iinc, B_X8_mid_150, fldv_7_8, fds_7_8, wi_ldc2_w, cnt_4, B_X8_mid_161, no0, no1, nz1, nz2, nz3, nz4, nz5, nz7, nz8, Classical.not_not, bz0, bz1, wi_nil, ld_0, ld_s, isIv_I, isLv_L, isRv_R, true_and, and_true, lset_0, lset_1, lset_s, avw_I, avw_L, avw_R, clr_cons, clr_nil, kst_0, kst_1, kstL_0, kstL_1, addk_I, pA_0, pA_s, pD_0, pD_s, wid_nil, wid_cons, rcv_c, putv_I, putv_L, List.length_cons, List.length_nil, List.set_cons_zero, List.set_cons_succ, not_false_eq_true, Nat.reduceMod, Nat.reduceDiv, Nat.reduceEqDiff, Nat.reduceLT, Nat.reduceLeDiff, Nat.reduceAdd, Nat.reduceSub, reduceIte, Nat.lt_irrefl, Nat.zero_ne_one, Nat.one_ne_zero, Nat.zero_add, List.nil_append, List.cons_append, Option.toList_some, Option.toList_none, forall_const, false_implies, true_implies, false_or, or_false, true_or, or_true, i_le, i_lt, i_eq, i_eq0, i_lt0, i_0le, i_0lt, i_le0, i_in1, i_cl, nI_add, pk_mul, pk_sub, i_div, i_rem, i_sh1, i_bit, i_or, i_and, i_andn, nt_le, nf_le, nt_lt, nf_lt, nt_eq, nf_eq, not_true_eq_false, and_self, and_false, false_and, eq_self, Bool.toNat_true, Bool.toNat_false, i_bool, i_bool1, Bool.false_eq_true, Bool.true_eq_false, reduceCtorEq, i_neg1, i_neg2, i_neg3, i_neg4, i_neg5, i_neg6, i_neg7, i_neg8, i_neg9, i_nega, i_negb, i_negc, i_max2, i_min2, (y_n hy)])
      refine px ?_
      refine x_entry (ls2 := [aR 8 0, aI (nI v), aU, aU, aU, aU, aU, aU]) (Nat.le_of_ble_eq_true rfl) pl_9 rfl (Nat.le_of_ble_eq_true rfl) ?_
      try simp (disch := omega) only [no0, no1, nz1, nz2, nz3, nz4, nz5, nz7, nz8, Classical.not_not, bz0, bz1, wi_nil, ld_0, ld_s, isIv_I, isLv_L, isRv_R, true_and, and_true, lset_0, lset_1, lset_s, avw_I, avw_L, avw_R, clr_cons, clr_nil, kst_0, kst_1, kstL_0, kstL_1, addk_I, pA_0, pA_s, pD_0, pD_s, wid_nil, wid_cons, rcv_c, putv_I, putv_L, List.length_cons, List.length_nil, List.set_cons_zero, List.set_cons_succ, not_false_eq_true, Nat.reduceMod, Nat.reduceDiv, Nat.reduceEqDiff, Nat.reduceLT, Nat.reduceLeDiff, Nat.reduceAdd, Nat.reduceSub, reduceIte, Nat.lt_irrefl, Nat.zero_ne_one, Nat.one_ne_zero, Nat.zero_add, List.nil_append, List.cons_append, Option.toList_some, Option.toList_none, forall_const, false_implies, true_implies, false_or, or_false, true_or, or_true, i_le, i_lt, i_eq, i_eq0, i_lt0, i_0le, i_0lt, i_le0, i_in1, i_cl, nI_add, pk_mul, pk_sub, i_div, i_rem, i_sh1, i_bit, i_or, i_and, i_andn, nt_le, nf_le, nt_lt, nf_lt, nt_eq, nf_eq, not_true_eq_false, and_self, and_false, false_and, eq_self, Bool.toNat_true, Bool.toNat_false, i_bool, i_bool1, Bool.false_eq_true, Bool.true_eq_false, reduceCtorEq, i_neg1, i_neg2, i_neg3, i_neg4, i_neg5, i_neg6, i_neg7, i_neg8, i_neg9, i_nega, i_negb, i_negc, i_max2, i_min2, wi_nil]
      repeat (
        first
        | refine s_X9_mid_0 ?_
        | refine s_X9_mid_8 ?_
        | refine s_X9_mid_11 ?_
        | refine s_X9_mid_18 ?_
        | refine s_X9_mid_27 ?_
        | refine s_X9_mid_49 ?_
        | refine s_X9_mid_59 ?_
        | refine s_X9_mid_60 ?_
        | refine s_X9_mid_72 ?_
        | refine s_X9_mid_77 ?_
        | refine s_X9_mid_92 ?_
        | refine s_X9_mid_108 ?_
        | refine s_X9_mid_114 ?_
        | refine s_X9_mid_115 ?_
        | refine s_X9_mid_124 ?_
        | refine s_X9_mid_133 ?_
        simp (disch := omega) only [B_X9_mid_0, wi_aload_n, wi_iload_n, wi_iconst, wi_bipush, wi_invokestatic, B_X9_mid_8, wi_invokevirtual, cnt_8, B_X9_mid_11, wi_istore_n, wi_if_ge, wi_ireturn, B_X9_mid_18, wi_getfield, fldv_8_20, fds_8_20, B_X9_mid_27, wi_lconst, wi_lstore, wi_istore, B_X9_mid_34, wi_iload, fldv_8_10, fds_8_10, wi_icmp_ge, B_X9_mid_49, wi_if_eq, wi_isub, wi_goto, B_X9_mid_59, B_X9_mid_60, wi_lload, B_X9_mid_72, B_X9_mid_77, B_X9_mid_92, wi_imul, B_X9_mid_108, wi_iadd, wi_i2l, B_X9_mid_114, B_X9_mid_115, wi_ladd, wi_iinc, B_X9_mid_124, wi_ldc2_w, B_X9_mid_133, no0, no1, nz1, nz2, nz3, nz4, nz5, nz7, nz8, Classical.not_not, bz0, bz1, wi_nil, ld_0, ld_s, isIv_I, isLv_L, isRv_R, true_and, and_true, lset_0, lset_1, lset_s, avw_I, avw_L, avw_R, clr_cons, clr_nil, kst_0, kst_1, kstL_0, kstL_1, addk_I, pA_0, pA_s, pD_0, pD_s, wid_nil, wid_cons, rcv_c, putv_I, putv_L, List.length_cons, List.length_nil, List.set_cons_zero, List.set_cons_succ, not_false_eq_true, Nat.reduceMod, Nat.reduceDiv, Nat.reduceEqDiff, Nat.reduceLT, Nat.reduceLeDiff, Nat.reduceAdd, Nat.reduceSub, reduceIte, Nat.lt_irrefl, Nat.zero_ne_one, Nat.one_ne_zero, Nat.zero_add, List.nil_append, List.cons_append, Option.toList_some, Option.toList_none, forall_const, false_implies, true_implies, false_or, or_false, true_or, or_true, i_le, i_lt, i_eq, i_eq0, i_lt0, i_0le, i_0lt, i_le0, i_in1, i_cl, nI_add, pk_mul, pk_sub, i_div, i_rem, i_sh1, i_bit, i_or, i_and, i_andn, nt_le, nf_le, nt_lt, nf_lt, nt_eq, nf_eq, not_true_eq_false, and_self, and_false, false_and, eq_self, Bool.toNat_true, Bool.toNat_false, i_bool, i_bool1, Bool.false_eq_true, Bool.true_eq_false, reduceCtorEq, i_neg1, i_neg2, i_neg3, i_neg4, i_neg5, i_neg6, i_neg7, i_neg8, i_neg9, i_nega, i_negb, i_negc, i_max2, i_min2])
      refine c_in (inb_le (N := 12) (by decide)) ?_
      try simp (disch := omega) only [no0, no1, nz1, nz2, nz3, nz4, nz5, nz7, nz8, Classical.not_not, bz0, bz1, wi_nil, ld_0, ld_s, isIv_I, isLv_L, isRv_R, true_and, and_true, lset_0, lset_1, lset_s, avw_I, avw_L, avw_R, clr_cons, clr_nil, kst_0, kst_1, kstL_0, kstL_1, addk_I, pA_0, pA_s, pD_0, pD_s, wid_nil, wid_cons, rcv_c, putv_I, putv_L, List.length_cons, List.length_nil, List.set_cons_zero, List.set_cons_succ, not_false_eq_true, Nat.reduceMod, Nat.reduceDiv, Nat.reduceEqDiff, Nat.reduceLT, Nat.reduceLeDiff, Nat.reduceAdd, Nat.reduceSub, reduceIte, Nat.lt_irrefl, Nat.zero_ne_one, Nat.one_ne_zero, Nat.zero_add, List.nil_append, List.cons_append, Option.toList_some, Option.toList_none, forall_const, false_implies, true_implies, false_or, or_false, true_or, or_true, i_le, i_lt, i_eq, i_eq0, i_lt0, i_0le, i_0lt, i_le0, i_in1, i_cl, nI_add, pk_mul, pk_sub, i_div, i_rem, i_sh1, i_bit, i_or, i_and, i_andn, nt_le, nf_le, nt_lt, nf_lt, nt_eq, nf_eq, not_true_eq_false, and_self, and_false, false_and, eq_self, Bool.toNat_true, Bool.toNat_false, i_bool, i_bool1, Bool.false_eq_true, Bool.true_eq_false, reduceCtorEq, i_neg1, i_neg2, i_neg3, i_neg4, i_neg5, i_neg6, i_neg7, i_neg8, i_neg9, i_nega, i_negb, i_negc, i_max2, i_min2, hv, wi_nil]
      repeat (
        first
        | refine s_X9_mid_0 ?_
        | refine s_X9_mid_8 ?_
        | refine s_X9_mid_11 ?_
        | refine s_X9_mid_18 ?_
        | refine s_X9_mid_27 ?_
        | refine s_X9_mid_49 ?_
        | refine s_X9_mid_59 ?_
        | refine s_X9_mid_60 ?_
        | refine s_X9_mid_72 ?_
        | refine s_X9_mid_77 ?_
        | refine s_X9_mid_92 ?_
        | refine s_X9_mid_108 ?_
        | refine s_X9_mid_114 ?_
        | refine s_X9_mid_115 ?_
        | refine s_X9_mid_124 ?_
        | refine s_X9_mid_133 ?_
        simp (disch := omega) only [B_X9_mid_0, wi_aload_n, wi_iload_n, wi_iconst, wi_bipush, wi_invokestatic, B_X9_mid_8, wi_invokevirtual, cnt_8, B_X9_mid_11, wi_istore_n, wi_if_ge, wi_ireturn, B_X9_mid_18, wi_getfield, fldv_8_20, fds_8_20, B_X9_mid_27, wi_lconst, wi_lstore, wi_istore, B_X9_mid_34, wi_iload, fldv_8_10, fds_8_10, wi_icmp_ge, B_X9_mid_49, wi_if_eq, wi_isub, wi_goto, B_X9_mid_59, B_X9_mid_60, wi_lload, B_X9_mid_72, B_X9_mid_77, B_X9_mid_92, wi_imul, B_X9_mid_108, wi_iadd, wi_i2l, B_X9_mid_114, B_X9_mid_115, wi_ladd, wi_iinc, B_X9_mid_124, wi_ldc2_w, B_X9_mid_133, no0, no1, nz1, nz2, nz3, nz4, nz5, nz7, nz8, Classical.not_not, bz0, bz1, wi_nil, ld_0, ld_s, isIv_I, isLv_L, isRv_R, true_and, and_true, lset_0, lset_1, lset_s, avw_I, avw_L, avw_R, clr_cons, clr_nil, kst_0, kst_1, kstL_0, kstL_1, addk_I, pA_0, pA_s, pD_0, pD_s, wid_nil, wid_cons, rcv_c, putv_I, putv_L, List.length_cons, List.length_nil, List.set_cons_zero, List.set_cons_succ, not_false_eq_true, Nat.reduceMod, Nat.reduceDiv, Nat.reduceEqDiff, Nat.reduceLT, Nat.reduceLeDiff, Nat.reduceAdd, Nat.reduceSub, reduceIte, Nat.lt_irrefl, Nat.zero_ne_one, Nat.one_ne_zero, Nat.zero_add, List.nil_append, List.cons_append, Option.toList_some, Option.toList_none, forall_const, false_implies, true_implies, false_or, or_false, true_or, or_true, i_le, i_lt, i_eq, i_eq0, i_lt0, i_0le, i_0lt, i_le0, i_in1, i_cl, nI_add, pk_mul, pk_sub, i_div, i_rem, i_sh1, i_bit, i_or, i_and, i_andn, nt_le, nf_le, nt_lt, nf_lt, nt_eq, nf_eq, not_true_eq_false, and_self, and_false, false_and, eq_self, Bool.toNat_true, Bool.toNat_false, i_bool, i_bool1, Bool.false_eq_true, Bool.true_eq_false, reduceCtorEq, i_neg1, i_neg2, i_neg3, i_neg4, i_neg5, i_neg6, i_neg7, i_neg8, i_neg9, i_nega, i_negb, i_negc, i_max2, i_min2, hv])
      refine c_needS hm e0 ?_
      try simp (disch := omega) only [no0, no1, nz1, nz2, nz3, nz4, nz5, nz7, nz8, Classical.not_not, bz0, bz1, wi_nil, ld_0, ld_s, isIv_I, isLv_L, isRv_R, true_and, and_true, lset_0, lset_1, lset_s, avw_I, avw_L, avw_R, clr_cons, clr_nil, kst_0, kst_1, kstL_0, kstL_1, addk_I, pA_0, pA_s, pD_0, pD_s, wid_nil, wid_cons, rcv_c, putv_I, putv_L, List.length_cons, List.length_nil, List.set_cons_zero, List.set_cons_succ, not_false_eq_true, Nat.reduceMod, Nat.reduceDiv, Nat.reduceEqDiff, Nat.reduceLT, Nat.reduceLeDiff, Nat.reduceAdd, Nat.reduceSub, reduceIte, Nat.lt_irrefl, Nat.zero_ne_one, Nat.one_ne_zero, Nat.zero_add, List.nil_append, List.cons_append, Option.toList_some, Option.toList_none, forall_const, false_implies, true_implies, false_or, or_false, true_or, or_true, i_le, i_lt, i_eq, i_eq0, i_lt0, i_0le, i_0lt, i_le0, i_in1, i_cl, nI_add, pk_mul, pk_sub, i_div, i_rem, i_sh1, i_bit, i_or, i_and, i_andn, nt_le, nf_le, nt_lt, nf_lt, nt_eq, nf_eq, not_true_eq_false, and_self, and_false, false_and, eq_self, Bool.toNat_true, Bool.toNat_false, i_bool, i_bool1, Bool.false_eq_true, Bool.true_eq_false, reduceCtorEq, i_neg1, i_neg2, i_neg3, i_neg4, i_neg5, i_neg6, i_neg7, i_neg8, i_neg9, i_nega, i_negb, i_negc, i_max2, i_min2, wi_nil]
      repeat (
        first
        | refine s_X9_mid_0 ?_
        | refine s_X9_mid_8 ?_
        | refine s_X9_mid_11 ?_
        | refine s_X9_mid_18 ?_
        | refine s_X9_mid_27 ?_
        | refine s_X9_mid_49 ?_
        | refine s_X9_mid_59 ?_
        | refine s_X9_mid_60 ?_
        | refine s_X9_mid_72 ?_
        | refine s_X9_mid_77 ?_
        | refine s_X9_mid_92 ?_
        | refine s_X9_mid_108 ?_
        | refine s_X9_mid_114 ?_
        | refine s_X9_mid_115 ?_
        | refine s_X9_mid_124 ?_
        | refine s_X9_mid_133 ?_
        simp (disch := omega) only [B_X9_mid_0, wi_aload_n, wi_iload_n, wi_iconst, wi_bipush, wi_invokestatic, B_X9_mid_8, wi_invokevirtual, cnt_8, B_X9_mid_11, wi_istore_n, wi_if_ge, wi_ireturn, B_X9_mid_18, wi_getfield, fldv_8_20, fds_8_20, B_X9_mid_27, wi_lconst, wi_lstore, wi_istore, B_X9_mid_34, wi_iload, fldv_8_10, fds_8_10, wi_icmp_ge, B_X9_mid_49, wi_if_eq, wi_isub, wi_goto, B_X9_mid_59, B_X9_mid_60, wi_lload, B_X9_mid_72, B_X9_mid_77, B_X9_mid_92, wi_imul, B_X9_mid_108, wi_iadd, wi_i2l, B_X9_mid_114, B_X9_mid_115, wi_ladd, wi_iinc, B_X9_mid_124, wi_ldc2_w, B_X9_mid_133, no0, no1, nz1, nz2, nz3, nz4, nz5, nz7, nz8, Classical.not_not, bz0, bz1, wi_nil, ld_0, ld_s, isIv_I, isLv_L, isRv_R, true_and, and_true, lset_0, lset_1, lset_s, avw_I, avw_L, avw_R, clr_cons, clr_nil, kst_0, kst_1, kstL_0, kstL_1, addk_I, pA_0, pA_s, pD_0, pD_s, wid_nil, wid_cons, rcv_c, putv_I, putv_L, List.length_cons, List.length_nil, List.set_cons_zero, List.set_cons_succ, not_false_eq_true, Nat.reduceMod, Nat.reduceDiv, Nat.reduceEqDiff, Nat.reduceLT, Nat.reduceLeDiff, Nat.reduceAdd, Nat.reduceSub, reduceIte, Nat.lt_irrefl, Nat.zero_ne_one, Nat.one_ne_zero, Nat.zero_add, List.nil_append, List.cons_append, Option.toList_some, Option.toList_none, forall_const, false_implies, true_implies, false_or, or_false, true_or, or_true, i_le, i_lt, i_eq, i_eq0, i_lt0, i_0le, i_0lt, i_le0, i_in1, i_cl, nI_add, pk_mul, pk_sub, i_div, i_rem, i_sh1, i_bit, i_or, i_and, i_andn, nt_le, nf_le, nt_lt, nf_lt, nt_eq, nf_eq, not_true_eq_false, and_self, and_false, false_and, eq_self, Bool.toNat_true, Bool.toNat_false, i_bool, i_bool1, Bool.false_eq_true, Bool.true_eq_false, reduceCtorEq, i_neg1, i_neg2, i_neg3, i_neg4, i_neg5, i_neg6, i_neg7, i_neg8, i_neg9, i_nega, i_negb, i_negc, i_max2, i_min2])
      exact pm h
    · have hch := (chY_sub hok 0).1
      have hml := md_le hok (s := chY Y 0) (p := v) (by omega) (Y 6 0) (Nat.le_refl _)
      refine x_entry (ls2 := [aR 7 0, aI (nI v), aU, aU, aU, aU, aU]) (Nat.le_of_ble_eq_true rfl) pl_8 rfl (Nat.le_of_ble_eq_true rfl) ?_
      try simp (disch := omega) only [no0, no1, nz1, nz2, nz3, nz4, nz5, nz7, nz8, Classical.not_not, bz0, bz1, wi_nil, ld_0, ld_s, isIv_I, isLv_L, isRv_R, true_and, and_true, lset_0, lset_1, lset_s, avw_I, avw_L, avw_R, clr_cons, clr_nil, kst_0, kst_1, kstL_0, kstL_1, addk_I, pA_0, pA_s, pD_0, pD_s, wid_nil, wid_cons, rcv_c, putv_I, putv_L, List.length_cons, List.length_nil, List.set_cons_zero, List.set_cons_succ, not_false_eq_true, Nat.reduceMod, Nat.reduceDiv, Nat.reduceEqDiff, Nat.reduceLT, Nat.reduceLeDiff, Nat.reduceAdd, Nat.reduceSub, reduceIte, Nat.lt_irrefl, Nat.zero_ne_one, Nat.one_ne_zero, Nat.zero_add, List.nil_append, List.cons_append, Option.toList_some, Option.toList_none, forall_const, false_implies, true_implies, false_or, or_false, true_or, or_true, i_le, i_lt, i_eq, i_eq0, i_lt0, i_0le, i_0lt, i_le0, i_in1, i_cl, nI_add, pk_mul, pk_sub, i_div, i_rem, i_sh1, i_bit, i_or, i_and, i_andn, nt_le, nf_le, nt_lt, nf_lt, nt_eq, nf_eq, not_true_eq_false, and_self, and_false, false_and, eq_self, Bool.toNat_true, Bool.toNat_false, i_bool, i_bool1, Bool.false_eq_true, Bool.true_eq_false, reduceCtorEq, i_neg1, i_neg2, i_neg3, i_neg4, i_neg5, i_neg6, i_neg7, i_neg8, i_neg9, i_nega, i_negb, i_negc, i_max2, i_min2, (y_n hy), wi_nil]
      repeat (
        first
        | refine s_X8_mid_0 ?_
        | refine s_X8_mid_10 ?_
        | refine s_X8_mid_12 ?_
        | refine s_X8_mid_25 ?_
        | refine s_X8_mid_33 ?_
        | refine s_X8_mid_60 ?_
        | refine s_X8_mid_77 ?_
        | refine s_X8_mid_79 ?_
        | refine s_X8_mid_107 ?_
        | refine s_X8_mid_140 ?_
        | refine s_X8_mid_144 ?_
        | refine s_X8_mid_150 ?_
        | refine s_X8_mid_161 ?_
        simp (disch := omega) only [B_X8_mid_0, wi_iload_n, wi_if_lt, wi_bipush, wi_icmp_le, B_X8_mid_10, wi_iconst, wi_ireturn, B_X8_mid_12, wi_aload_n, wi_getfield, fldv_7_3, fds_7_3, cnt_7, fldv_6_7, fds_6_7, cnt_6, wi_if_ne, B_X8_mid_25, wi_invokevirtual, B_X8_mid_33, wi_istore_n, wi_lconst, wi_lstore_n, wi_istore, B_X8_mid_39, wi_iload, wi_icmp_ge, B_X8_mid_60, wi_ishr, wi_iand, wi_icmp_ne, wi_goto, B_X8_mid_77, B_X8_mid_79, wi_lload_n, fldv_6_0, fds_6_0, wi_iaload, fldv_6_2, fds_6_2, wi_invokestatic, cnt_20, aTy_20, aLn_20, arr_20, cnt_22, aTy_22, aLn_22, arr_22, B_X8_mid_107, wi_imul, wi_i2l, wi_ladd, wi_isub, B_X8_mid_140, B_X8_mid_144, wi_iinc, B_X8_mid_150, fldv_7_8, fds_7_8, wi_ldc2_w, cnt_4, B_X8_mid_161, no0, no1, nz1, nz2, nz3, nz4, nz5, nz7, nz8, Classical.not_not, bz0, bz1, wi_nil, ld_0, ld_s, isIv_I, isLv_L, isRv_R, true_and, and_true, lset_0, lset_1, lset_s, avw_I, avw_L, avw_R, clr_cons, clr_nil, kst_0, kst_1, kstL_0, kstL_1, addk_I, pA_0, pA_s, pD_0, pD_s, wid_nil, wid_cons, rcv_c, putv_I, putv_L, List.length_cons, List.length_nil, List.set_cons_zero, List.set_cons_succ, not_false_eq_true, Nat.reduceMod, Nat.reduceDiv, Nat.reduceEqDiff, Nat.reduceLT, Nat.reduceLeDiff, Nat.reduceAdd, Nat.reduceSub, reduceIte, Nat.lt_irrefl, Nat.zero_ne_one, Nat.one_ne_zero, Nat.zero_add, List.nil_append, List.cons_append, Option.toList_some, Option.toList_none, forall_const, false_implies, true_implies, false_or, or_false, true_or, or_true, i_le, i_lt, i_eq, i_eq0, i_lt0, i_0le, i_0lt, i_le0, i_in1, i_cl, nI_add, pk_mul, pk_sub, i_div, i_rem, i_sh1, i_bit, i_or, i_and, i_andn, nt_le, nf_le, nt_lt, nf_lt, nt_eq, nf_eq, not_true_eq_false, and_self, and_false, false_and, eq_self, Bool.toNat_true, Bool.toNat_false, i_bool, i_bool1, Bool.false_eq_true, Bool.true_eq_false, reduceCtorEq, i_neg1, i_neg2, i_neg3, i_neg4, i_neg5, i_neg6, i_neg7, i_neg8, i_neg9, i_nega, i_negb, i_negc, i_max2, i_min2, (y_n hy)])
      refine c_choice (by decide) hy hok (by decide) (by decide) (fun g hg => ?_)
      try simp (disch := omega) only [no0, no1, nz1, nz2, nz3, nz4, nz5, nz7, nz8, Classical.not_not, bz0, bz1, wi_nil, ld_0, ld_s, isIv_I, isLv_L, isRv_R, true_and, and_true, lset_0, lset_1, lset_s, avw_I, avw_L, avw_R, clr_cons, clr_nil, kst_0, kst_1, kstL_0, kstL_1, addk_I, pA_0, pA_s, pD_0, pD_s, wid_nil, wid_cons, rcv_c, putv_I, putv_L, List.length_cons, List.length_nil, List.set_cons_zero, List.set_cons_succ, not_false_eq_true, Nat.reduceMod, Nat.reduceDiv, Nat.reduceEqDiff, Nat.reduceLT, Nat.reduceLeDiff, Nat.reduceAdd, Nat.reduceSub, reduceIte, Nat.lt_irrefl, Nat.zero_ne_one, Nat.one_ne_zero, Nat.zero_add, List.nil_append, List.cons_append, Option.toList_some, Option.toList_none, forall_const, false_implies, true_implies, false_or, or_false, true_or, or_true, i_le, i_lt, i_eq, i_eq0, i_lt0, i_0le, i_0lt, i_le0, i_in1, i_cl, nI_add, pk_mul, pk_sub, i_div, i_rem, i_sh1, i_bit, i_or, i_and, i_andn, nt_le, nf_le, nt_lt, nf_lt, nt_eq, nf_eq, not_true_eq_false, and_self, and_false, false_and, eq_self, Bool.toNat_true, Bool.toNat_false, i_bool, i_bool1, Bool.false_eq_true, Bool.true_eq_false, reduceCtorEq, i_neg1, i_neg2, i_neg3, i_neg4, i_neg5, i_neg6, i_neg7, i_neg8, i_neg9, i_nega, i_negb, i_negc, i_max2, i_min2, wi_nil]
      repeat (
        first
        | refine s_X8_mid_0 ?_
        | refine s_X8_mid_10 ?_
        | refine s_X8_mid_12 ?_
        | refine s_X8_mid_25 ?_
        | refine s_X8_mid_33 ?_
        | refine s_X8_mid_60 ?_
        | refine s_X8_mid_77 ?_
        | refine s_X8_mid_79 ?_
        | refine s_X8_mid_107 ?_
        | refine s_X8_mid_140 ?_
        | refine s_X8_mid_144 ?_
        | refine s_X8_mid_150 ?_
        | refine s_X8_mid_161 ?_
        simp (disch := omega) only [B_X8_mid_0, wi_iload_n, wi_if_lt, wi_bipush, wi_icmp_le, B_X8_mid_10, wi_iconst, wi_ireturn, B_X8_mid_12, wi_aload_n, wi_getfield, fldv_7_3, fds_7_3, cnt_7, fldv_6_7, fds_6_7, cnt_6, wi_if_ne, B_X8_mid_25, wi_invokevirtual, B_X8_mid_33, wi_istore_n, wi_lconst, wi_lstore_n, wi_istore, B_X8_mid_39, wi_iload, wi_icmp_ge, B_X8_mid_60, wi_ishr, wi_iand, wi_icmp_ne, wi_goto, B_X8_mid_77, B_X8_mid_79, wi_lload_n, fldv_6_0, fds_6_0, wi_iaload, fldv_6_2, fds_6_2, wi_invokestatic, cnt_20, aTy_20, aLn_20, arr_20, cnt_22, aTy_22, aLn_22, arr_22, B_X8_mid_107, wi_imul, wi_i2l, wi_ladd, wi_isub, B_X8_mid_140, B_X8_mid_144, wi_iinc, B_X8_mid_150, fldv_7_8, fds_7_8, wi_ldc2_w, cnt_4, B_X8_mid_161, no0, no1, nz1, nz2, nz3, nz4, nz5, nz7, nz8, Classical.not_not, bz0, bz1, wi_nil, ld_0, ld_s, isIv_I, isLv_L, isRv_R, true_and, and_true, lset_0, lset_1, lset_s, avw_I, avw_L, avw_R, clr_cons, clr_nil, kst_0, kst_1, kstL_0, kstL_1, addk_I, pA_0, pA_s, pD_0, pD_s, wid_nil, wid_cons, rcv_c, putv_I, putv_L, List.length_cons, List.length_nil, List.set_cons_zero, List.set_cons_succ, not_false_eq_true, Nat.reduceMod, Nat.reduceDiv, Nat.reduceEqDiff, Nat.reduceLT, Nat.reduceLeDiff, Nat.reduceAdd, Nat.reduceSub, reduceIte, Nat.lt_irrefl, Nat.zero_ne_one, Nat.one_ne_zero, Nat.zero_add, List.nil_append, List.cons_append, Option.toList_some, Option.toList_none, forall_const, false_implies, true_implies, false_or, or_false, true_or, or_true, i_le, i_lt, i_eq, i_eq0, i_lt0, i_0le, i_0lt, i_le0, i_in1, i_cl, nI_add, pk_mul, pk_sub, i_div, i_rem, i_sh1, i_bit, i_or, i_and, i_andn, nt_le, nf_le, nt_lt, nf_lt, nt_eq, nf_eq, not_true_eq_false, and_self, and_false, false_and, eq_self, Bool.toNat_true, Bool.toNat_false, i_bool, i_bool1, Bool.false_eq_true, Bool.true_eq_false, reduceCtorEq, i_neg1, i_neg2, i_neg3, i_neg4, i_neg5, i_neg6, i_neg7, i_neg8, i_neg9, i_nega, i_negb, i_negc, i_max2, i_min2])
      refine l_xmid (s := chY Y 0) (by omega) hch (yrx_26 hy) hok ?_ (Y 6 0) 0 (by omega)
      try simp (disch := omega) only [no0, no1, nz1, nz2, nz3, nz4, nz5, nz7, nz8, Classical.not_not, bz0, bz1, wi_nil, ld_0, ld_s, isIv_I, isLv_L, isRv_R, true_and, and_true, lset_0, lset_1, lset_s, avw_I, avw_L, avw_R, clr_cons, clr_nil, kst_0, kst_1, kstL_0, kstL_1, addk_I, pA_0, pA_s, pD_0, pD_s, wid_nil, wid_cons, rcv_c, putv_I, putv_L, List.length_cons, List.length_nil, List.set_cons_zero, List.set_cons_succ, not_false_eq_true, Nat.reduceMod, Nat.reduceDiv, Nat.reduceEqDiff, Nat.reduceLT, Nat.reduceLeDiff, Nat.reduceAdd, Nat.reduceSub, reduceIte, Nat.lt_irrefl, Nat.zero_ne_one, Nat.one_ne_zero, Nat.zero_add, List.nil_append, List.cons_append, Option.toList_some, Option.toList_none, forall_const, false_implies, true_implies, false_or, or_false, true_or, or_true, i_le, i_lt, i_eq, i_eq0, i_lt0, i_0le, i_0lt, i_le0, i_in1, i_cl, nI_add, pk_mul, pk_sub, i_div, i_rem, i_sh1, i_bit, i_or, i_and, i_andn, nt_le, nf_le, nt_lt, nf_lt, nt_eq, nf_eq, not_true_eq_false, and_self, and_false, false_and, eq_self, Bool.toNat_true, Bool.toNat_false, i_bool, i_bool1, Bool.false_eq_true, Bool.true_eq_false, reduceCtorEq, i_neg1, i_neg2, i_neg3, i_neg4, i_neg5, i_neg6, i_neg7, i_neg8, i_neg9, i_nega, i_negb, i_negc, i_max2, i_min2, wi_nil]
      repeat (
        first
        | refine s_X8_mid_0 ?_
        | refine s_X8_mid_10 ?_
        | refine s_X8_mid_12 ?_
        | refine s_X8_mid_25 ?_
        | refine s_X8_mid_33 ?_
        | refine s_X8_mid_60 ?_
        | refine s_X8_mid_77 ?_
        | refine s_X8_mid_79 ?_
        | refine s_X8_mid_107 ?_
        | refine s_X8_mid_140 ?_
        | refine s_X8_mid_144 ?_
        | refine s_X8_mid_150 ?_
        | refine s_X8_mid_161 ?_
        simp (disch := omega) only [B_X8_mid_0, wi_iload_n, wi_if_lt, wi_bipush, wi_icmp_le, B_X8_mid_10, wi_iconst, wi_ireturn, B_X8_mid_12, wi_aload_n, wi_getfield, fldv_7_3, fds_7_3, cnt_7, fldv_6_7, fds_6_7, cnt_6, wi_if_ne, B_X8_mid_25, wi_invokevirtual, B_X8_mid_33, wi_istore_n, wi_lconst, wi_lstore_n, wi_istore, B_X8_mid_39, wi_iload, wi_icmp_ge, B_X8_mid_60, wi_ishr, wi_iand, wi_icmp_ne, wi_goto, B_X8_mid_77, B_X8_mid_79, wi_lload_n, fldv_6_0, fds_6_0, wi_iaload, fldv_6_2, fds_6_2, wi_invokestatic, cnt_20, aTy_20, aLn_20, arr_20, cnt_22, aTy_22, aLn_22, arr_22, B_X8_mid_107, wi_imul, wi_i2l, wi_ladd, wi_isub, B_X8_mid_140, B_X8_mid_144, wi_iinc, B_X8_mid_150, fldv_7_8, fds_7_8, wi_ldc2_w, cnt_4, B_X8_mid_161, no0, no1, nz1, nz2, nz3, nz4, nz5, nz7, nz8, Classical.not_not, bz0, bz1, wi_nil, ld_0, ld_s, isIv_I, isLv_L, isRv_R, true_and, and_true, lset_0, lset_1, lset_s, avw_I, avw_L, avw_R, clr_cons, clr_nil, kst_0, kst_1, kstL_0, kstL_1, addk_I, pA_0, pA_s, pD_0, pD_s, wid_nil, wid_cons, rcv_c, putv_I, putv_L, List.length_cons, List.length_nil, List.set_cons_zero, List.set_cons_succ, not_false_eq_true, Nat.reduceMod, Nat.reduceDiv, Nat.reduceEqDiff, Nat.reduceLT, Nat.reduceLeDiff, Nat.reduceAdd, Nat.reduceSub, reduceIte, Nat.lt_irrefl, Nat.zero_ne_one, Nat.one_ne_zero, Nat.zero_add, List.nil_append, List.cons_append, Option.toList_some, Option.toList_none, forall_const, false_implies, true_implies, false_or, or_false, true_or, or_true, i_le, i_lt, i_eq, i_eq0, i_lt0, i_0le, i_0lt, i_le0, i_in1, i_cl, nI_add, pk_mul, pk_sub, i_div, i_rem, i_sh1, i_bit, i_or, i_and, i_andn, nt_le, nf_le, nt_lt, nf_lt, nt_eq, nf_eq, not_true_eq_false, and_self, and_false, false_and, eq_self, Bool.toNat_true, Bool.toNat_false, i_bool, i_bool1, Bool.false_eq_true, Bool.true_eq_false, reduceCtorEq, i_neg1, i_neg2, i_neg3, i_neg4, i_neg5, i_neg6, i_neg7, i_neg8, i_neg9, i_nega, i_negb, i_negc, i_max2, i_min2])
      refine c_reduce (by omega) (by decide) (by decide) ?_
      try simp (disch := omega) only [no0, no1, nz1, nz2, nz3, nz4, nz5, nz7, nz8, Classical.not_not, bz0, bz1, wi_nil, ld_0, ld_s, isIv_I, isLv_L, isRv_R, true_and, and_true, lset_0, lset_1, lset_s, avw_I, avw_L, avw_R, clr_cons, clr_nil, kst_0, kst_1, kstL_0, kstL_1, addk_I, pA_0, pA_s, pD_0, pD_s, wid_nil, wid_cons, rcv_c, putv_I, putv_L, List.length_cons, List.length_nil, List.set_cons_zero, List.set_cons_succ, not_false_eq_true, Nat.reduceMod, Nat.reduceDiv, Nat.reduceEqDiff, Nat.reduceLT, Nat.reduceLeDiff, Nat.reduceAdd, Nat.reduceSub, reduceIte, Nat.lt_irrefl, Nat.zero_ne_one, Nat.one_ne_zero, Nat.zero_add, List.nil_append, List.cons_append, Option.toList_some, Option.toList_none, forall_const, false_implies, true_implies, false_or, or_false, true_or, or_true, i_le, i_lt, i_eq, i_eq0, i_lt0, i_0le, i_0lt, i_le0, i_in1, i_cl, nI_add, pk_mul, pk_sub, i_div, i_rem, i_sh1, i_bit, i_or, i_and, i_andn, nt_le, nf_le, nt_lt, nf_lt, nt_eq, nf_eq, not_true_eq_false, and_self, and_false, false_and, eq_self, Bool.toNat_true, Bool.toNat_false, i_bool, i_bool1, Bool.false_eq_true, Bool.true_eq_false, reduceCtorEq, i_neg1, i_neg2, i_neg3, i_neg4, i_neg5, i_neg6, i_neg7, i_neg8, i_neg9, i_nega, i_negb, i_negc, i_max2, i_min2, wi_nil]
      repeat (
        first
        | refine s_X8_mid_0 ?_
        | refine s_X8_mid_10 ?_
        | refine s_X8_mid_12 ?_
        | refine s_X8_mid_25 ?_
        | refine s_X8_mid_33 ?_
        | refine s_X8_mid_60 ?_
        | refine s_X8_mid_77 ?_
        | refine s_X8_mid_79 ?_
        | refine s_X8_mid_107 ?_
        | refine s_X8_mid_140 ?_
        | refine s_X8_mid_144 ?_
        | refine s_X8_mid_150 ?_
        | refine s_X8_mid_161 ?_
        simp (disch := omega) only [B_X8_mid_0, wi_iload_n, wi_if_lt, wi_bipush, wi_icmp_le, B_X8_mid_10, wi_iconst, wi_ireturn, B_X8_mid_12, wi_aload_n, wi_getfield, fldv_7_3, fds_7_3, cnt_7, fldv_6_7, fds_6_7, cnt_6, wi_if_ne, B_X8_mid_25, wi_invokevirtual, B_X8_mid_33, wi_istore_n, wi_lconst, wi_lstore_n, wi_istore, B_X8_mid_39, wi_iload, wi_icmp_ge, B_X8_mid_60, wi_ishr, wi_iand, wi_icmp_ne, wi_goto, B_X8_mid_77, B_X8_mid_79, wi_lload_n, fldv_6_0, fds_6_0, wi_iaload, fldv_6_2, fds_6_2, wi_invokestatic, cnt_20, aTy_20, aLn_20, arr_20, cnt_22, aTy_22, aLn_22, arr_22, B_X8_mid_107, wi_imul, wi_i2l, wi_ladd, wi_isub, B_X8_mid_140, B_X8_mid_144, wi_iinc, B_X8_mid_150, fldv_7_8, fds_7_8, wi_ldc2_w, cnt_4, B_X8_mid_161, no0, no1, nz1, nz2, nz3, nz4, nz5, nz7, nz8, Classical.not_not, bz0, bz1, wi_nil, ld_0, ld_s, isIv_I, isLv_L, isRv_R, true_and, and_true, lset_0, lset_1, lset_s, avw_I, avw_L, avw_R, clr_cons, clr_nil, kst_0, kst_1, kstL_0, kstL_1, addk_I, pA_0, pA_s, pD_0, pD_s, wid_nil, wid_cons, rcv_c, putv_I, putv_L, List.length_cons, List.length_nil, List.set_cons_zero, List.set_cons_succ, not_false_eq_true, Nat.reduceMod, Nat.reduceDiv, Nat.reduceEqDiff, Nat.reduceLT, Nat.reduceLeDiff, Nat.reduceAdd, Nat.reduceSub, reduceIte, Nat.lt_irrefl, Nat.zero_ne_one, Nat.one_ne_zero, Nat.zero_add, List.nil_append, List.cons_append, Option.toList_some, Option.toList_none, forall_const, false_implies, true_implies, false_or, or_false, true_or, or_true, i_le, i_lt, i_eq, i_eq0, i_lt0, i_0le, i_0lt, i_le0, i_in1, i_cl, nI_add, pk_mul, pk_sub, i_div, i_rem, i_sh1, i_bit, i_or, i_and, i_andn, nt_le, nf_le, nt_lt, nf_lt, nt_eq, nf_eq, not_true_eq_false, and_self, and_false, false_and, eq_self, Bool.toNat_true, Bool.toNat_false, i_bool, i_bool1, Bool.false_eq_true, Bool.true_eq_false, reduceCtorEq, i_neg1, i_neg2, i_neg3, i_neg4, i_neg5, i_neg6, i_neg7, i_neg8, i_neg9, i_nega, i_negb, i_negc, i_max2, i_min2])
      refine px ?_
      generalize hu : fb_sm (mdf Y (chY Y 0) v) (Y 6 0) = u at hml ⊢
      have hm2 : YrM (sL (sL (sA S 26 1 g) 4 0 0 (lN (u / Nat.gcd u 12))) 4 0 1 (lN (12 / Nat.gcd u 12))) 40 Y := hm
      refine x_entry (ls2 := [aR 8 0, aI (nI v), aU, aU, aU, aU, aU, aU]) (Nat.le_of_ble_eq_true rfl) pl_9 rfl (Nat.le_of_ble_eq_true rfl) ?_
      try simp (disch := omega) only [no0, no1, nz1, nz2, nz3, nz4, nz5, nz7, nz8, Classical.not_not, bz0, bz1, wi_nil, ld_0, ld_s, isIv_I, isLv_L, isRv_R, true_and, and_true, lset_0, lset_1, lset_s, avw_I, avw_L, avw_R, clr_cons, clr_nil, kst_0, kst_1, kstL_0, kstL_1, addk_I, pA_0, pA_s, pD_0, pD_s, wid_nil, wid_cons, rcv_c, putv_I, putv_L, List.length_cons, List.length_nil, List.set_cons_zero, List.set_cons_succ, not_false_eq_true, Nat.reduceMod, Nat.reduceDiv, Nat.reduceEqDiff, Nat.reduceLT, Nat.reduceLeDiff, Nat.reduceAdd, Nat.reduceSub, reduceIte, Nat.lt_irrefl, Nat.zero_ne_one, Nat.one_ne_zero, Nat.zero_add, List.nil_append, List.cons_append, Option.toList_some, Option.toList_none, forall_const, false_implies, true_implies, false_or, or_false, true_or, or_true, i_le, i_lt, i_eq, i_eq0, i_lt0, i_0le, i_0lt, i_le0, i_in1, i_cl, nI_add, pk_mul, pk_sub, i_div, i_rem, i_sh1, i_bit, i_or, i_and, i_andn, nt_le, nf_le, nt_lt, nf_lt, nt_eq, nf_eq, not_true_eq_false, and_self, and_false, false_and, eq_self, Bool.toNat_true, Bool.toNat_false, i_bool, i_bool1, Bool.false_eq_true, Bool.true_eq_false, reduceCtorEq, i_neg1, i_neg2, i_neg3, i_neg4, i_neg5, i_neg6, i_neg7, i_neg8, i_neg9, i_nega, i_negb, i_negc, i_max2, i_min2, wi_nil]
      repeat (
        first
        | refine s_X9_mid_0 ?_
        | refine s_X9_mid_8 ?_
        | refine s_X9_mid_11 ?_
        | refine s_X9_mid_18 ?_
        | refine s_X9_mid_27 ?_
        | refine s_X9_mid_49 ?_
        | refine s_X9_mid_59 ?_
        | refine s_X9_mid_60 ?_
        | refine s_X9_mid_72 ?_
        | refine s_X9_mid_77 ?_
        | refine s_X9_mid_92 ?_
        | refine s_X9_mid_108 ?_
        | refine s_X9_mid_114 ?_
        | refine s_X9_mid_115 ?_
        | refine s_X9_mid_124 ?_
        | refine s_X9_mid_133 ?_
        simp (disch := omega) only [B_X9_mid_0, wi_aload_n, wi_iload_n, wi_iconst, wi_bipush, wi_invokestatic, B_X9_mid_8, wi_invokevirtual, cnt_8, B_X9_mid_11, wi_istore_n, wi_if_ge, wi_ireturn, B_X9_mid_18, wi_getfield, fldv_8_20, fds_8_20, B_X9_mid_27, wi_lconst, wi_lstore, wi_istore, B_X9_mid_34, wi_iload, fldv_8_10, fds_8_10, wi_icmp_ge, B_X9_mid_49, wi_if_eq, wi_isub, wi_goto, B_X9_mid_59, B_X9_mid_60, wi_lload, B_X9_mid_72, B_X9_mid_77, B_X9_mid_92, wi_imul, B_X9_mid_108, wi_iadd, wi_i2l, B_X9_mid_114, B_X9_mid_115, wi_ladd, wi_iinc, B_X9_mid_124, wi_ldc2_w, B_X9_mid_133, no0, no1, nz1, nz2, nz3, nz4, nz5, nz7, nz8, Classical.not_not, bz0, bz1, wi_nil, ld_0, ld_s, isIv_I, isLv_L, isRv_R, true_and, and_true, lset_0, lset_1, lset_s, avw_I, avw_L, avw_R, clr_cons, clr_nil, kst_0, kst_1, kstL_0, kstL_1, addk_I, pA_0, pA_s, pD_0, pD_s, wid_nil, wid_cons, rcv_c, putv_I, putv_L, List.length_cons, List.length_nil, List.set_cons_zero, List.set_cons_succ, not_false_eq_true, Nat.reduceMod, Nat.reduceDiv, Nat.reduceEqDiff, Nat.reduceLT, Nat.reduceLeDiff, Nat.reduceAdd, Nat.reduceSub, reduceIte, Nat.lt_irrefl, Nat.zero_ne_one, Nat.one_ne_zero, Nat.zero_add, List.nil_append, List.cons_append, Option.toList_some, Option.toList_none, forall_const, false_implies, true_implies, false_or, or_false, true_or, or_true, i_le, i_lt, i_eq, i_eq0, i_lt0, i_0le, i_0lt, i_le0, i_in1, i_cl, nI_add, pk_mul, pk_sub, i_div, i_rem, i_sh1, i_bit, i_or, i_and, i_andn, nt_le, nf_le, nt_lt, nf_lt, nt_eq, nf_eq, not_true_eq_false, and_self, and_false, false_and, eq_self, Bool.toNat_true, Bool.toNat_false, i_bool, i_bool1, Bool.false_eq_true, Bool.true_eq_false, reduceCtorEq, i_neg1, i_neg2, i_neg3, i_neg4, i_neg5, i_neg6, i_neg7, i_neg8, i_neg9, i_nega, i_negb, i_negc, i_max2, i_min2])
      refine c_in (inb_le (N := 12) (by decide)) ?_
      try simp (disch := omega) only [no0, no1, nz1, nz2, nz3, nz4, nz5, nz7, nz8, Classical.not_not, bz0, bz1, wi_nil, ld_0, ld_s, isIv_I, isLv_L, isRv_R, true_and, and_true, lset_0, lset_1, lset_s, avw_I, avw_L, avw_R, clr_cons, clr_nil, kst_0, kst_1, kstL_0, kstL_1, addk_I, pA_0, pA_s, pD_0, pD_s, wid_nil, wid_cons, rcv_c, putv_I, putv_L, List.length_cons, List.length_nil, List.set_cons_zero, List.set_cons_succ, not_false_eq_true, Nat.reduceMod, Nat.reduceDiv, Nat.reduceEqDiff, Nat.reduceLT, Nat.reduceLeDiff, Nat.reduceAdd, Nat.reduceSub, reduceIte, Nat.lt_irrefl, Nat.zero_ne_one, Nat.one_ne_zero, Nat.zero_add, List.nil_append, List.cons_append, Option.toList_some, Option.toList_none, forall_const, false_implies, true_implies, false_or, or_false, true_or, or_true, i_le, i_lt, i_eq, i_eq0, i_lt0, i_0le, i_0lt, i_le0, i_in1, i_cl, nI_add, pk_mul, pk_sub, i_div, i_rem, i_sh1, i_bit, i_or, i_and, i_andn, nt_le, nf_le, nt_lt, nf_lt, nt_eq, nf_eq, not_true_eq_false, and_self, and_false, false_and, eq_self, Bool.toNat_true, Bool.toNat_false, i_bool, i_bool1, Bool.false_eq_true, Bool.true_eq_false, reduceCtorEq, i_neg1, i_neg2, i_neg3, i_neg4, i_neg5, i_neg6, i_neg7, i_neg8, i_neg9, i_nega, i_negb, i_negc, i_max2, i_min2, hv, wi_nil]
      repeat (
        first
        | refine s_X9_mid_0 ?_
        | refine s_X9_mid_8 ?_
        | refine s_X9_mid_11 ?_
        | refine s_X9_mid_18 ?_
        | refine s_X9_mid_27 ?_
        | refine s_X9_mid_49 ?_
        | refine s_X9_mid_59 ?_
        | refine s_X9_mid_60 ?_
        | refine s_X9_mid_72 ?_
        | refine s_X9_mid_77 ?_
        | refine s_X9_mid_92 ?_
        | refine s_X9_mid_108 ?_
        | refine s_X9_mid_114 ?_
        | refine s_X9_mid_115 ?_
        | refine s_X9_mid_124 ?_
        | refine s_X9_mid_133 ?_
        simp (disch := omega) only [B_X9_mid_0, wi_aload_n, wi_iload_n, wi_iconst, wi_bipush, wi_invokestatic, B_X9_mid_8, wi_invokevirtual, cnt_8, B_X9_mid_11, wi_istore_n, wi_if_ge, wi_ireturn, B_X9_mid_18, wi_getfield, fldv_8_20, fds_8_20, B_X9_mid_27, wi_lconst, wi_lstore, wi_istore, B_X9_mid_34, wi_iload, fldv_8_10, fds_8_10, wi_icmp_ge, B_X9_mid_49, wi_if_eq, wi_isub, wi_goto, B_X9_mid_59, B_X9_mid_60, wi_lload, B_X9_mid_72, B_X9_mid_77, B_X9_mid_92, wi_imul, B_X9_mid_108, wi_iadd, wi_i2l, B_X9_mid_114, B_X9_mid_115, wi_ladd, wi_iinc, B_X9_mid_124, wi_ldc2_w, B_X9_mid_133, no0, no1, nz1, nz2, nz3, nz4, nz5, nz7, nz8, Classical.not_not, bz0, bz1, wi_nil, ld_0, ld_s, isIv_I, isLv_L, isRv_R, true_and, and_true, lset_0, lset_1, lset_s, avw_I, avw_L, avw_R, clr_cons, clr_nil, kst_0, kst_1, kstL_0, kstL_1, addk_I, pA_0, pA_s, pD_0, pD_s, wid_nil, wid_cons, rcv_c, putv_I, putv_L, List.length_cons, List.length_nil, List.set_cons_zero, List.set_cons_succ, not_false_eq_true, Nat.reduceMod, Nat.reduceDiv, Nat.reduceEqDiff, Nat.reduceLT, Nat.reduceLeDiff, Nat.reduceAdd, Nat.reduceSub, reduceIte, Nat.lt_irrefl, Nat.zero_ne_one, Nat.one_ne_zero, Nat.zero_add, List.nil_append, List.cons_append, Option.toList_some, Option.toList_none, forall_const, false_implies, true_implies, false_or, or_false, true_or, or_true, i_le, i_lt, i_eq, i_eq0, i_lt0, i_0le, i_0lt, i_le0, i_in1, i_cl, nI_add, pk_mul, pk_sub, i_div, i_rem, i_sh1, i_bit, i_or, i_and, i_andn, nt_le, nf_le, nt_lt, nf_lt, nt_eq, nf_eq, not_true_eq_false, and_self, and_false, false_and, eq_self, Bool.toNat_true, Bool.toNat_false, i_bool, i_bool1, Bool.false_eq_true, Bool.true_eq_false, reduceCtorEq, i_neg1, i_neg2, i_neg3, i_neg4, i_neg5, i_neg6, i_neg7, i_neg8, i_neg9, i_nega, i_negb, i_negc, i_max2, i_min2, hv])
      refine c_needK hm2 hn5 e0 ?_
      try simp (disch := omega) only [no0, no1, nz1, nz2, nz3, nz4, nz5, nz7, nz8, Classical.not_not, bz0, bz1, wi_nil, ld_0, ld_s, isIv_I, isLv_L, isRv_R, true_and, and_true, lset_0, lset_1, lset_s, avw_I, avw_L, avw_R, clr_cons, clr_nil, kst_0, kst_1, kstL_0, kstL_1, addk_I, pA_0, pA_s, pD_0, pD_s, wid_nil, wid_cons, rcv_c, putv_I, putv_L, List.length_cons, List.length_nil, List.set_cons_zero, List.set_cons_succ, not_false_eq_true, Nat.reduceMod, Nat.reduceDiv, Nat.reduceEqDiff, Nat.reduceLT, Nat.reduceLeDiff, Nat.reduceAdd, Nat.reduceSub, reduceIte, Nat.lt_irrefl, Nat.zero_ne_one, Nat.one_ne_zero, Nat.zero_add, List.nil_append, List.cons_append, Option.toList_some, Option.toList_none, forall_const, false_implies, true_implies, false_or, or_false, true_or, or_true, i_le, i_lt, i_eq, i_eq0, i_lt0, i_0le, i_0lt, i_le0, i_in1, i_cl, nI_add, pk_mul, pk_sub, i_div, i_rem, i_sh1, i_bit, i_or, i_and, i_andn, nt_le, nf_le, nt_lt, nf_lt, nt_eq, nf_eq, not_true_eq_false, and_self, and_false, false_and, eq_self, Bool.toNat_true, Bool.toNat_false, i_bool, i_bool1, Bool.false_eq_true, Bool.true_eq_false, reduceCtorEq, i_neg1, i_neg2, i_neg3, i_neg4, i_neg5, i_neg6, i_neg7, i_neg8, i_neg9, i_nega, i_negb, i_negc, i_max2, i_min2, wi_nil]
      repeat (
        first
        | refine s_X9_mid_0 ?_
        | refine s_X9_mid_8 ?_
        | refine s_X9_mid_11 ?_
        | refine s_X9_mid_18 ?_
        | refine s_X9_mid_27 ?_
        | refine s_X9_mid_49 ?_
        | refine s_X9_mid_59 ?_
        | refine s_X9_mid_60 ?_
        | refine s_X9_mid_72 ?_
        | refine s_X9_mid_77 ?_
        | refine s_X9_mid_92 ?_
        | refine s_X9_mid_108 ?_
        | refine s_X9_mid_114 ?_
        | refine s_X9_mid_115 ?_
        | refine s_X9_mid_124 ?_
        | refine s_X9_mid_133 ?_
        simp (disch := omega) only [B_X9_mid_0, wi_aload_n, wi_iload_n, wi_iconst, wi_bipush, wi_invokestatic, B_X9_mid_8, wi_invokevirtual, cnt_8, B_X9_mid_11, wi_istore_n, wi_if_ge, wi_ireturn, B_X9_mid_18, wi_getfield, fldv_8_20, fds_8_20, B_X9_mid_27, wi_lconst, wi_lstore, wi_istore, B_X9_mid_34, wi_iload, fldv_8_10, fds_8_10, wi_icmp_ge, B_X9_mid_49, wi_if_eq, wi_isub, wi_goto, B_X9_mid_59, B_X9_mid_60, wi_lload, B_X9_mid_72, B_X9_mid_77, B_X9_mid_92, wi_imul, B_X9_mid_108, wi_iadd, wi_i2l, B_X9_mid_114, B_X9_mid_115, wi_ladd, wi_iinc, B_X9_mid_124, wi_ldc2_w, B_X9_mid_133, no0, no1, nz1, nz2, nz3, nz4, nz5, nz7, nz8, Classical.not_not, bz0, bz1, wi_nil, ld_0, ld_s, isIv_I, isLv_L, isRv_R, true_and, and_true, lset_0, lset_1, lset_s, avw_I, avw_L, avw_R, clr_cons, clr_nil, kst_0, kst_1, kstL_0, kstL_1, addk_I, pA_0, pA_s, pD_0, pD_s, wid_nil, wid_cons, rcv_c, putv_I, putv_L, List.length_cons, List.length_nil, List.set_cons_zero, List.set_cons_succ, not_false_eq_true, Nat.reduceMod, Nat.reduceDiv, Nat.reduceEqDiff, Nat.reduceLT, Nat.reduceLeDiff, Nat.reduceAdd, Nat.reduceSub, reduceIte, Nat.lt_irrefl, Nat.zero_ne_one, Nat.one_ne_zero, Nat.zero_add, List.nil_append, List.cons_append, Option.toList_some, Option.toList_none, forall_const, false_implies, true_implies, false_or, or_false, true_or, or_true, i_le, i_lt, i_eq, i_eq0, i_lt0, i_0le, i_0lt, i_le0, i_in1, i_cl, nI_add, pk_mul, pk_sub, i_div, i_rem, i_sh1, i_bit, i_or, i_and, i_andn, nt_le, nf_le, nt_lt, nf_lt, nt_eq, nf_eq, not_true_eq_false, and_self, and_false, false_and, eq_self, Bool.toNat_true, Bool.toNat_false, i_bool, i_bool1, Bool.false_eq_true, Bool.true_eq_false, reduceCtorEq, i_neg1, i_neg2, i_neg3, i_neg4, i_neg5, i_neg6, i_neg7, i_neg8, i_neg9, i_nega, i_negb, i_negc, i_max2, i_min2])
      refine c_byRule (Or.inl rfl) hm2 hok (by decide) (by decide) ?_
      try simp (disch := omega) only [no0, no1, nz1, nz2, nz3, nz4, nz5, nz7, nz8, Classical.not_not, bz0, bz1, wi_nil, ld_0, ld_s, isIv_I, isLv_L, isRv_R, true_and, and_true, lset_0, lset_1, lset_s, avw_I, avw_L, avw_R, clr_cons, clr_nil, kst_0, kst_1, kstL_0, kstL_1, addk_I, pA_0, pA_s, pD_0, pD_s, wid_nil, wid_cons, rcv_c, putv_I, putv_L, List.length_cons, List.length_nil, List.set_cons_zero, List.set_cons_succ, not_false_eq_true, Nat.reduceMod, Nat.reduceDiv, Nat.reduceEqDiff, Nat.reduceLT, Nat.reduceLeDiff, Nat.reduceAdd, Nat.reduceSub, reduceIte, Nat.lt_irrefl, Nat.zero_ne_one, Nat.one_ne_zero, Nat.zero_add, List.nil_append, List.cons_append, Option.toList_some, Option.toList_none, forall_const, false_implies, true_implies, false_or, or_false, true_or, or_true, i_le, i_lt, i_eq, i_eq0, i_lt0, i_0le, i_0lt, i_le0, i_in1, i_cl, nI_add, pk_mul, pk_sub, i_div, i_rem, i_sh1, i_bit, i_or, i_and, i_andn, nt_le, nf_le, nt_lt, nf_lt, nt_eq, nf_eq, not_true_eq_false, and_self, and_false, false_and, eq_self, Bool.toNat_true, Bool.toNat_false, i_bool, i_bool1, Bool.false_eq_true, Bool.true_eq_false, reduceCtorEq, i_neg1, i_neg2, i_neg3, i_neg4, i_neg5, i_neg6, i_neg7, i_neg8, i_neg9, i_nega, i_negb, i_negc, i_max2, i_min2, wi_nil]
      repeat (
        first
        | refine s_X9_mid_0 ?_
        | refine s_X9_mid_8 ?_
        | refine s_X9_mid_11 ?_
        | refine s_X9_mid_18 ?_
        | refine s_X9_mid_27 ?_
        | refine s_X9_mid_49 ?_
        | refine s_X9_mid_59 ?_
        | refine s_X9_mid_60 ?_
        | refine s_X9_mid_72 ?_
        | refine s_X9_mid_77 ?_
        | refine s_X9_mid_92 ?_
        | refine s_X9_mid_108 ?_
        | refine s_X9_mid_114 ?_
        | refine s_X9_mid_115 ?_
        | refine s_X9_mid_124 ?_
        | refine s_X9_mid_133 ?_
        simp (disch := omega) only [B_X9_mid_0, wi_aload_n, wi_iload_n, wi_iconst, wi_bipush, wi_invokestatic, B_X9_mid_8, wi_invokevirtual, cnt_8, B_X9_mid_11, wi_istore_n, wi_if_ge, wi_ireturn, B_X9_mid_18, wi_getfield, fldv_8_20, fds_8_20, B_X9_mid_27, wi_lconst, wi_lstore, wi_istore, B_X9_mid_34, wi_iload, fldv_8_10, fds_8_10, wi_icmp_ge, B_X9_mid_49, wi_if_eq, wi_isub, wi_goto, B_X9_mid_59, B_X9_mid_60, wi_lload, B_X9_mid_72, B_X9_mid_77, B_X9_mid_92, wi_imul, B_X9_mid_108, wi_iadd, wi_i2l, B_X9_mid_114, B_X9_mid_115, wi_ladd, wi_iinc, B_X9_mid_124, wi_ldc2_w, B_X9_mid_133, no0, no1, nz1, nz2, nz3, nz4, nz5, nz7, nz8, Classical.not_not, bz0, bz1, wi_nil, ld_0, ld_s, isIv_I, isLv_L, isRv_R, true_and, and_true, lset_0, lset_1, lset_s, avw_I, avw_L, avw_R, clr_cons, clr_nil, kst_0, kst_1, kstL_0, kstL_1, addk_I, pA_0, pA_s, pD_0, pD_s, wid_nil, wid_cons, rcv_c, putv_I, putv_L, List.length_cons, List.length_nil, List.set_cons_zero, List.set_cons_succ, not_false_eq_true, Nat.reduceMod, Nat.reduceDiv, Nat.reduceEqDiff, Nat.reduceLT, Nat.reduceLeDiff, Nat.reduceAdd, Nat.reduceSub, reduceIte, Nat.lt_irrefl, Nat.zero_ne_one, Nat.one_ne_zero, Nat.zero_add, List.nil_append, List.cons_append, Option.toList_some, Option.toList_none, forall_const, false_implies, true_implies, false_or, or_false, true_or, or_true, i_le, i_lt, i_eq, i_eq0, i_lt0, i_0le, i_0lt, i_le0, i_in1, i_cl, nI_add, pk_mul, pk_sub, i_div, i_rem, i_sh1, i_bit, i_or, i_and, i_andn, nt_le, nf_le, nt_lt, nf_lt, nt_eq, nf_eq, not_true_eq_false, and_self, and_false, false_and, eq_self, Bool.toNat_true, Bool.toNat_false, i_bool, i_bool1, Bool.false_eq_true, Bool.true_eq_false, reduceCtorEq, i_neg1, i_neg2, i_neg3, i_neg4, i_neg5, i_neg6, i_neg7, i_neg8, i_neg9, i_nega, i_negb, i_negc, i_max2, i_min2])
      refine l_mmid (s := chY Y 0) (by omega) hch hm2 hok ?_ (Y 6 0) 0 (by omega)
      rw [hu]
      try simp (disch := omega) only [no0, no1, nz1, nz2, nz3, nz4, nz5, nz7, nz8, Classical.not_not, bz0, bz1, wi_nil, ld_0, ld_s, isIv_I, isLv_L, isRv_R, true_and, and_true, lset_0, lset_1, lset_s, avw_I, avw_L, avw_R, clr_cons, clr_nil, kst_0, kst_1, kstL_0, kstL_1, addk_I, pA_0, pA_s, pD_0, pD_s, wid_nil, wid_cons, rcv_c, putv_I, putv_L, List.length_cons, List.length_nil, List.set_cons_zero, List.set_cons_succ, not_false_eq_true, Nat.reduceMod, Nat.reduceDiv, Nat.reduceEqDiff, Nat.reduceLT, Nat.reduceLeDiff, Nat.reduceAdd, Nat.reduceSub, reduceIte, Nat.lt_irrefl, Nat.zero_ne_one, Nat.one_ne_zero, Nat.zero_add, List.nil_append, List.cons_append, Option.toList_some, Option.toList_none, forall_const, false_implies, true_implies, false_or, or_false, true_or, or_true, i_le, i_lt, i_eq, i_eq0, i_lt0, i_0le, i_0lt, i_le0, i_in1, i_cl, nI_add, pk_mul, pk_sub, i_div, i_rem, i_sh1, i_bit, i_or, i_and, i_andn, nt_le, nf_le, nt_lt, nf_lt, nt_eq, nf_eq, not_true_eq_false, and_self, and_false, false_and, eq_self, Bool.toNat_true, Bool.toNat_false, i_bool, i_bool1, Bool.false_eq_true, Bool.true_eq_false, reduceCtorEq, i_neg1, i_neg2, i_neg3, i_neg4, i_neg5, i_neg6, i_neg7, i_neg8, i_neg9, i_nega, i_negb, i_negc, i_max2, i_min2, wi_nil]
      repeat (
        first
        | refine s_X9_mid_0 ?_
        | refine s_X9_mid_8 ?_
        | refine s_X9_mid_11 ?_
        | refine s_X9_mid_18 ?_
        | refine s_X9_mid_27 ?_
        | refine s_X9_mid_49 ?_
        | refine s_X9_mid_59 ?_
        | refine s_X9_mid_60 ?_
        | refine s_X9_mid_72 ?_
        | refine s_X9_mid_77 ?_
        | refine s_X9_mid_92 ?_
        | refine s_X9_mid_108 ?_
        | refine s_X9_mid_114 ?_
        | refine s_X9_mid_115 ?_
        | refine s_X9_mid_124 ?_
        | refine s_X9_mid_133 ?_
        simp (disch := omega) only [B_X9_mid_0, wi_aload_n, wi_iload_n, wi_iconst, wi_bipush, wi_invokestatic, B_X9_mid_8, wi_invokevirtual, cnt_8, B_X9_mid_11, wi_istore_n, wi_if_ge, wi_ireturn, B_X9_mid_18, wi_getfield, fldv_8_20, fds_8_20, B_X9_mid_27, wi_lconst, wi_lstore, wi_istore, B_X9_mid_34, wi_iload, fldv_8_10, fds_8_10, wi_icmp_ge, B_X9_mid_49, wi_if_eq, wi_isub, wi_goto, B_X9_mid_59, B_X9_mid_60, wi_lload, B_X9_mid_72, B_X9_mid_77, B_X9_mid_92, wi_imul, B_X9_mid_108, wi_iadd, wi_i2l, B_X9_mid_114, B_X9_mid_115, wi_ladd, wi_iinc, B_X9_mid_124, wi_ldc2_w, B_X9_mid_133, no0, no1, nz1, nz2, nz3, nz4, nz5, nz7, nz8, Classical.not_not, bz0, bz1, wi_nil, ld_0, ld_s, isIv_I, isLv_L, isRv_R, true_and, and_true, lset_0, lset_1, lset_s, avw_I, avw_L, avw_R, clr_cons, clr_nil, kst_0, kst_1, kstL_0, kstL_1, addk_I, pA_0, pA_s, pD_0, pD_s, wid_nil, wid_cons, rcv_c, putv_I, putv_L, List.length_cons, List.length_nil, List.set_cons_zero, List.set_cons_succ, not_false_eq_true, Nat.reduceMod, Nat.reduceDiv, Nat.reduceEqDiff, Nat.reduceLT, Nat.reduceLeDiff, Nat.reduceAdd, Nat.reduceSub, reduceIte, Nat.lt_irrefl, Nat.zero_ne_one, Nat.one_ne_zero, Nat.zero_add, List.nil_append, List.cons_append, Option.toList_some, Option.toList_none, forall_const, false_implies, true_implies, false_or, or_false, true_or, or_true, i_le, i_lt, i_eq, i_eq0, i_lt0, i_0le, i_0lt, i_le0, i_in1, i_cl, nI_add, pk_mul, pk_sub, i_div, i_rem, i_sh1, i_bit, i_or, i_and, i_andn, nt_le, nf_le, nt_lt, nf_lt, nt_eq, nf_eq, not_true_eq_false, and_self, and_false, false_and, eq_self, Bool.toNat_true, Bool.toNat_false, i_bool, i_bool1, Bool.false_eq_true, Bool.true_eq_false, reduceCtorEq, i_neg1, i_neg2, i_neg3, i_neg4, i_neg5, i_neg6, i_neg7, i_neg8, i_neg9, i_nega, i_negb, i_negc, i_max2, i_min2])
      refine c_fraction (by omega) (by decide) (by decide) ?_
      try simp (disch := omega) only [no0, no1, nz1, nz2, nz3, nz4, nz5, nz7, nz8, Classical.not_not, bz0, bz1, wi_nil, ld_0, ld_s, isIv_I, isLv_L, isRv_R, true_and, and_true, lset_0, lset_1, lset_s, avw_I, avw_L, avw_R, clr_cons, clr_nil, kst_0, kst_1, kstL_0, kstL_1, addk_I, pA_0, pA_s, pD_0, pD_s, wid_nil, wid_cons, rcv_c, putv_I, putv_L, List.length_cons, List.length_nil, List.set_cons_zero, List.set_cons_succ, not_false_eq_true, Nat.reduceMod, Nat.reduceDiv, Nat.reduceEqDiff, Nat.reduceLT, Nat.reduceLeDiff, Nat.reduceAdd, Nat.reduceSub, reduceIte, Nat.lt_irrefl, Nat.zero_ne_one, Nat.one_ne_zero, Nat.zero_add, List.nil_append, List.cons_append, Option.toList_some, Option.toList_none, forall_const, false_implies, true_implies, false_or, or_false, true_or, or_true, i_le, i_lt, i_eq, i_eq0, i_lt0, i_0le, i_0lt, i_le0, i_in1, i_cl, nI_add, pk_mul, pk_sub, i_div, i_rem, i_sh1, i_bit, i_or, i_and, i_andn, nt_le, nf_le, nt_lt, nf_lt, nt_eq, nf_eq, not_true_eq_false, and_self, and_false, false_and, eq_self, Bool.toNat_true, Bool.toNat_false, i_bool, i_bool1, Bool.false_eq_true, Bool.true_eq_false, reduceCtorEq, i_neg1, i_neg2, i_neg3, i_neg4, i_neg5, i_neg6, i_neg7, i_neg8, i_neg9, i_nega, i_negb, i_negc, i_max2, i_min2, wi_nil]
      repeat (
        first
        | refine s_X9_mid_0 ?_
        | refine s_X9_mid_8 ?_
        | refine s_X9_mid_11 ?_
        | refine s_X9_mid_18 ?_
        | refine s_X9_mid_27 ?_
        | refine s_X9_mid_49 ?_
        | refine s_X9_mid_59 ?_
        | refine s_X9_mid_60 ?_
        | refine s_X9_mid_72 ?_
        | refine s_X9_mid_77 ?_
        | refine s_X9_mid_92 ?_
        | refine s_X9_mid_108 ?_
        | refine s_X9_mid_114 ?_
        | refine s_X9_mid_115 ?_
        | refine s_X9_mid_124 ?_
        | refine s_X9_mid_133 ?_
        simp (disch := omega) only [B_X9_mid_0, wi_aload_n, wi_iload_n, wi_iconst, wi_bipush, wi_invokestatic, B_X9_mid_8, wi_invokevirtual, cnt_8, B_X9_mid_11, wi_istore_n, wi_if_ge, wi_ireturn, B_X9_mid_18, wi_getfield, fldv_8_20, fds_8_20, B_X9_mid_27, wi_lconst, wi_lstore, wi_istore, B_X9_mid_34, wi_iload, fldv_8_10, fds_8_10, wi_icmp_ge, B_X9_mid_49, wi_if_eq, wi_isub, wi_goto, B_X9_mid_59, B_X9_mid_60, wi_lload, B_X9_mid_72, B_X9_mid_77, B_X9_mid_92, wi_imul, B_X9_mid_108, wi_iadd, wi_i2l, B_X9_mid_114, B_X9_mid_115, wi_ladd, wi_iinc, B_X9_mid_124, wi_ldc2_w, B_X9_mid_133, no0, no1, nz1, nz2, nz3, nz4, nz5, nz7, nz8, Classical.not_not, bz0, bz1, wi_nil, ld_0, ld_s, isIv_I, isLv_L, isRv_R, true_and, and_true, lset_0, lset_1, lset_s, avw_I, avw_L, avw_R, clr_cons, clr_nil, kst_0, kst_1, kstL_0, kstL_1, addk_I, pA_0, pA_s, pD_0, pD_s, wid_nil, wid_cons, rcv_c, putv_I, putv_L, List.length_cons, List.length_nil, List.set_cons_zero, List.set_cons_succ, not_false_eq_true, Nat.reduceMod, Nat.reduceDiv, Nat.reduceEqDiff, Nat.reduceLT, Nat.reduceLeDiff, Nat.reduceAdd, Nat.reduceSub, reduceIte, Nat.lt_irrefl, Nat.zero_ne_one, Nat.one_ne_zero, Nat.zero_add, List.nil_append, List.cons_append, Option.toList_some, Option.toList_none, forall_const, false_implies, true_implies, false_or, or_false, true_or, or_true, i_le, i_lt, i_eq, i_eq0, i_lt0, i_0le, i_0lt, i_le0, i_in1, i_cl, nI_add, pk_mul, pk_sub, i_div, i_rem, i_sh1, i_bit, i_or, i_and, i_andn, nt_le, nf_le, nt_lt, nf_lt, nt_eq, nf_eq, not_true_eq_false, and_self, and_false, false_and, eq_self, Bool.toNat_true, Bool.toNat_false, i_bool, i_bool1, Bool.false_eq_true, Bool.true_eq_false, reduceCtorEq, i_neg1, i_neg2, i_neg3, i_neg4, i_neg5, i_neg6, i_neg7, i_neg8, i_neg9, i_nega, i_negb, i_negc, i_max2, i_min2])
      exact pm (r_share (rr_fs h (fs_26 (j := 1) (r := g))) Fr.refl)
end
