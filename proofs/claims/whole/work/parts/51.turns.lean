-- PART 51: by turns: plain mathematics, the class's side
/-- the best of what may be done -/
def boF (ok : Nat → Bool) (v : Nat → Nat) (t : Bool) : Nat → Option Nat
  | 0 => none
  | i + 1 => if ok i = true then (match boF ok v t i with
    | none => some (v i)
    | some b => some (if t = true then min b (v i) else max b (v i))) else boF ok v t i
def TT (c : Nat → Nat) : Nat → Nat → Int → Bool → Nat
  | 0, _, _, _ => 0
  | k + 1, L, w, t => (boF (fun i => L.testBit i && (t || decide ((c i : Int) ≤ w))) (fun i => (if t = true then 0 else 1) + TT c k (L &&& (31 - 2 ^ i)) (w - (if t = true then 0 else (c i : Int))) (!t)) t 5).getD (TT c k L w (!t))
theorem bo_le {ok : Nat → Bool} {v : Nat → Nat} {t : Bool} {M : Nat} (h : ∀ i, ok i = true → v i ≤ M) : ∀ {n b : Nat}, boF ok v t n = some b → b ≤ M := by
  intro n
  induction n with
  | zero => intro b h; cases h
  | succ n ih =>
    intro b hb
    rw [boF] at hb
    split at hb
    · rename_i hok
      have h1 := h n hok
      split at hb
      · rw [← Option.some.inj hb]; exact h1
      · rename_i b0 hb0
        have := ih hb0
        rw [← Option.some.inj hb]
        split <;> omega
    · exact ih hb
theorem TT_le {c : Nat → Nat} : ∀ (k L : Nat) (w : Int) (t : Bool), TT c k L w t ≤ k := by
  intro k
  induction k with
  | zero => intro L w t; exact Nat.le_refl 0
  | succ k ih =>
    intro L w t
    rw [TT]
    cases hb : boF (fun i => L.testBit i && (t || decide ((c i : Int) ≤ w))) (fun i => (if t = true then 0 else 1) + TT c k (L &&& (31 - 2 ^ i)) (w - (if t = true then 0 else (c i : Int))) (!t)) t 5 with
    | none => show TT c k L w (!t) ≤ k + 1; have := ih L w (!t); omega
    | some b =>
      refine bo_le (M := k + 1) (fun i _ => ?_) hb
      have := ih (L &&& (31 - 2 ^ i)) (w - (if t = true then 0 else (c i : Int))) (!t)
      try dsimp only
      generalize TT c k (L &&& (31 - 2 ^ i)) (w - (if t = true then 0 else (c i : Int))) (!t) = z at this ⊢
      split <;> omega
theorem csum_pow {f : Nat → Nat} {i : Nat} (hi : i < 5) : csum f 5 (2 ^ i) = f i := by
  have := csum_add (f := f) (i := i) (s := 0) (m := 5) (Nat.two_pow_pos i) hi
  rw [Nat.add_zero] at this
  rw [this, csum_high 5 0 0 (by decide) (by decide)]
  exact Nat.zero_add _
section
variable {S : MS} {Y Y0 : Nat → Nat → Nat} {P : Option AV → MS → Prop}
theorem l_turns {d k L w B : Nat} {t : Bool} (hk : k + 1 ≤ 5) (hL : L < 32) (hw : w ≤ 40) (ho : YOk B Y) (hs : ∀ s, s < 32 → gA S 26 1 s = nI (csum (ycz Y) 5 s))
    (rec : ∀ (L w : Nat) (P : Option AV → MS → Prop), L < 32 → w ≤ 40 → P (some (aI (nI (TT (ycz Y) k L (w : Int) (!t))))) S → wpM d mX8_turns [aR 26 1, aI (nI L), aI (nI w), aI (nI k), aI (nI (!t).toNat)] S P)
    (q : P (some (aI (nI (TT (ycz Y) (k + 1) L (w : Int) t)))) S) : ∀ (m i : Nat), i + m = 5 → wpX d mX8_turns 13 [aR 26 1, aI (nI L), aI (nI w), aI (nI (k + 1)), aI (nI t.toNat), aI (wrI (boF (fun i => L.testBit i && (t || decide ((ycz Y i : Int) ≤ (w : Int)))) (fun i => (if t = true then 0 else 1) + TT (ycz Y) k (L &&& (31 - 2 ^ i)) ((w : Int) - (if t = true then 0 else (ycz Y i : Int))) (!t)) t i)), aI (nI i), aU, aU, aU, aU] [] S P := by
  intro m
  induction m with
  | zero =>
    intro i hi
    have e : i = 5 := by omega
    subst e
    rw [TT] at q
    refine s_X8_turns_13 ?_
    simp (disch := omega) only [B_X8_turns_13, wi_iload, wi_iconst, wi_icmp_ge, wi_ishl, wi_istore, wi_iload_n, wi_iand, wi_if_eq, wi_if_ne, wi_aload_n, wi_iaload, wi_icmp_gt, no0, no1, nz1, nz2, nz3, nz4, nz5, nz7, nz8, Classical.not_not, bz0, bz1, wi_nil, ld_0, ld_s, isIv_I, isLv_L, isRv_R, true_and, and_true, lset_0, lset_1, lset_s, avw_I, avw_L, avw_R, clr_cons, clr_nil, kst_0, kst_1, kstL_0, kstL_1, addk_I, pA_0, pA_s, pD_0, pD_s, wid_nil, wid_cons, rcv_c, putv_I, putv_L, List.length_cons, List.length_nil, List.set_cons_zero, List.set_cons_succ, not_false_eq_true, Nat.reduceMod, Nat.reduceDiv, Nat.reduceEqDiff, Nat.reduceLT, Nat.reduceLeDiff, Nat.reduceAdd, Nat.reduceSub, reduceIte, Nat.lt_irrefl, Nat.zero_ne_one, Nat.one_ne_zero, Nat.zero_add, List.nil_append, List.cons_append, Option.toList_some, Option.toList_none, forall_const, false_implies, true_implies, false_or, or_false, true_or, or_true, i_le, i_lt, i_eq, i_eq0, i_lt0, i_0le, i_0lt, i_le0, i_in1, i_cl, nI_add, pk_mul, pk_sub, i_div, i_rem, i_sh1, i_bit, i_or, i_and, i_andn, nt_le, nf_le, nt_lt, nf_lt, nt_eq, nf_eq, not_true_eq_false, and_self, and_false, false_and, eq_self, Bool.toNat_true, Bool.toNat_false, i_bool, i_bool1, Bool.false_eq_true, Bool.true_eq_false, reduceCtorEq, i_neg1, i_neg2, i_neg3, i_neg4, i_neg5, i_neg6, i_neg7, i_neg8, i_neg9, i_nega, i_negb, i_negc, i_max2, i_min2]
    cases hb : boF (fun i => L.testBit i && (t || decide ((ycz Y i : Int) ≤ (w : Int)))) (fun i => (if t = true then 0 else 1) + TT (ycz Y) k (L &&& (31 - 2 ^ i)) ((w : Int) - (if t = true then 0 else (ycz Y i : Int))) (!t)) t 5 with
    | none =>
      rw [hb] at q
      have q : P (some (aI (nI (TT (ycz Y) k L (w : Int) (!t))))) S := q
      have r := rec L w
      cases t
      · try simp (disch := omega) only [no0, no1, nz1, nz2, nz3, nz4, nz5, nz7, nz8, Classical.not_not, bz0, bz1, wi_nil, ld_0, ld_s, isIv_I, isLv_L, isRv_R, true_and, and_true, lset_0, lset_1, lset_s, avw_I, avw_L, avw_R, clr_cons, clr_nil, kst_0, kst_1, kstL_0, kstL_1, addk_I, pA_0, pA_s, pD_0, pD_s, wid_nil, wid_cons, rcv_c, putv_I, putv_L, List.length_cons, List.length_nil, List.set_cons_zero, List.set_cons_succ, not_false_eq_true, Nat.reduceMod, Nat.reduceDiv, Nat.reduceEqDiff, Nat.reduceLT, Nat.reduceLeDiff, Nat.reduceAdd, Nat.reduceSub, reduceIte, Nat.lt_irrefl, Nat.zero_ne_one, Nat.one_ne_zero, Nat.zero_add, List.nil_append, List.cons_append, Option.toList_some, Option.toList_none, forall_const, false_implies, true_implies, false_or, or_false, true_or, or_true, i_le, i_lt, i_eq, i_eq0, i_lt0, i_0le, i_0lt, i_le0, i_in1, i_cl, nI_add, pk_mul, pk_sub, i_div, i_rem, i_sh1, i_bit, i_or, i_and, i_andn, nt_le, nf_le, nt_lt, nf_lt, nt_eq, nf_eq, not_true_eq_false, and_self, and_false, false_and, eq_self, Bool.toNat_true, Bool.toNat_false, i_bool, i_bool1, Bool.false_eq_true, Bool.true_eq_false, reduceCtorEq, i_neg1, i_neg2, i_neg3, i_neg4, i_neg5, i_neg6, i_neg7, i_neg8, i_neg9, i_nega, i_negb, i_negc, i_max2, i_min2, wrI, wi_nil]
        repeat (
          first
          | refine s_X8_turns_0 ?_
          | refine s_X8_turns_6 ?_
          | refine s_X8_turns_45 ?_
          | refine s_X8_turns_54 ?_
          | refine s_X8_turns_55 ?_
          | refine s_X8_turns_66 ?_
          | refine s_X8_turns_70 ?_
          | refine s_X8_turns_97 ?_
          | refine s_X8_turns_98 ?_
          | refine s_X8_turns_101 ?_
          | refine s_X8_turns_116 ?_
          | refine s_X8_turns_131 ?_
          | refine s_X8_turns_138 ?_
          | refine s_X8_turns_140 ?_
          | refine s_X8_turns_146 ?_
          | refine s_X8_turns_168 ?_
          | refine s_X8_turns_169 ?_
          | refine s_X8_turns_172 ?_
          | refine s_X8_turns_175 ?_
          | refine s_X8_turns_177 ?_
          simp (disch := omega) only [B_X8_turns_0, wi_iload_n, wi_if_gt, wi_iconst, wi_ireturn, B_X8_turns_6, wi_bipush, wi_istore, B_X8_turns_13, wi_iload, wi_icmp_ge, wi_ishl, wi_iand, wi_if_eq, wi_if_ne, wi_aload_n, wi_iaload, wi_icmp_gt, B_X8_turns_45, wi_goto, B_X8_turns_54, B_X8_turns_55, B_X8_turns_66, B_X8_turns_70, wi_ixor, wi_isub, B_X8_turns_97, B_X8_turns_98, wi_invokestatic, B_X8_turns_101, wi_iadd, wi_icmp_ne, B_X8_turns_116, wi_min, B_X8_turns_131, wi_max, B_X8_turns_138, B_X8_turns_140, wi_iinc, B_X8_turns_146, B_X8_turns_168, B_X8_turns_169, B_X8_turns_172, B_X8_turns_175, B_X8_turns_177, no0, no1, nz1, nz2, nz3, nz4, nz5, nz7, nz8, Classical.not_not, bz0, bz1, wi_nil, ld_0, ld_s, isIv_I, isLv_L, isRv_R, true_and, and_true, lset_0, lset_1, lset_s, avw_I, avw_L, avw_R, clr_cons, clr_nil, kst_0, kst_1, kstL_0, kstL_1, addk_I, pA_0, pA_s, pD_0, pD_s, wid_nil, wid_cons, rcv_c, putv_I, putv_L, List.length_cons, List.length_nil, List.set_cons_zero, List.set_cons_succ, not_false_eq_true, Nat.reduceMod, Nat.reduceDiv, Nat.reduceEqDiff, Nat.reduceLT, Nat.reduceLeDiff, Nat.reduceAdd, Nat.reduceSub, reduceIte, Nat.lt_irrefl, Nat.zero_ne_one, Nat.one_ne_zero, Nat.zero_add, List.nil_append, List.cons_append, Option.toList_some, Option.toList_none, forall_const, false_implies, true_implies, false_or, or_false, true_or, or_true, i_le, i_lt, i_eq, i_eq0, i_lt0, i_0le, i_0lt, i_le0, i_in1, i_cl, nI_add, pk_mul, pk_sub, i_div, i_rem, i_sh1, i_bit, i_or, i_and, i_andn, nt_le, nf_le, nt_lt, nf_lt, nt_eq, nf_eq, not_true_eq_false, and_self, and_false, false_and, eq_self, Bool.toNat_true, Bool.toNat_false, i_bool, i_bool1, Bool.false_eq_true, Bool.true_eq_false, reduceCtorEq, i_neg1, i_neg2, i_neg3, i_neg4, i_neg5, i_neg6, i_neg7, i_neg8, i_neg9, i_nega, i_negb, i_negc, i_max2, i_min2, wrI])
        refine r _ hL hw ?_
        try simp (disch := omega) only [no0, no1, nz1, nz2, nz3, nz4, nz5, nz7, nz8, Classical.not_not, bz0, bz1, wi_nil, ld_0, ld_s, isIv_I, isLv_L, isRv_R, true_and, and_true, lset_0, lset_1, lset_s, avw_I, avw_L, avw_R, clr_cons, clr_nil, kst_0, kst_1, kstL_0, kstL_1, addk_I, pA_0, pA_s, pD_0, pD_s, wid_nil, wid_cons, rcv_c, putv_I, putv_L, List.length_cons, List.length_nil, List.set_cons_zero, List.set_cons_succ, not_false_eq_true, Nat.reduceMod, Nat.reduceDiv, Nat.reduceEqDiff, Nat.reduceLT, Nat.reduceLeDiff, Nat.reduceAdd, Nat.reduceSub, reduceIte, Nat.lt_irrefl, Nat.zero_ne_one, Nat.one_ne_zero, Nat.zero_add, List.nil_append, List.cons_append, Option.toList_some, Option.toList_none, forall_const, false_implies, true_implies, false_or, or_false, true_or, or_true, i_le, i_lt, i_eq, i_eq0, i_lt0, i_0le, i_0lt, i_le0, i_in1, i_cl, nI_add, pk_mul, pk_sub, i_div, i_rem, i_sh1, i_bit, i_or, i_and, i_andn, nt_le, nf_le, nt_lt, nf_lt, nt_eq, nf_eq, not_true_eq_false, and_self, and_false, false_and, eq_self, Bool.toNat_true, Bool.toNat_false, i_bool, i_bool1, Bool.false_eq_true, Bool.true_eq_false, reduceCtorEq, i_neg1, i_neg2, i_neg3, i_neg4, i_neg5, i_neg6, i_neg7, i_neg8, i_neg9, i_nega, i_negb, i_negc, i_max2, i_min2, wi_nil]
        repeat (
          first
          | refine s_X8_turns_0 ?_
          | refine s_X8_turns_6 ?_
          | refine s_X8_turns_45 ?_
          | refine s_X8_turns_54 ?_
          | refine s_X8_turns_55 ?_
          | refine s_X8_turns_66 ?_
          | refine s_X8_turns_70 ?_
          | refine s_X8_turns_97 ?_
          | refine s_X8_turns_98 ?_
          | refine s_X8_turns_101 ?_
          | refine s_X8_turns_116 ?_
          | refine s_X8_turns_131 ?_
          | refine s_X8_turns_138 ?_
          | refine s_X8_turns_140 ?_
          | refine s_X8_turns_146 ?_
          | refine s_X8_turns_168 ?_
          | refine s_X8_turns_169 ?_
          | refine s_X8_turns_172 ?_
          | refine s_X8_turns_175 ?_
          | refine s_X8_turns_177 ?_
          simp (disch := omega) only [B_X8_turns_0, wi_iload_n, wi_if_gt, wi_iconst, wi_ireturn, B_X8_turns_6, wi_bipush, wi_istore, B_X8_turns_13, wi_iload, wi_icmp_ge, wi_ishl, wi_iand, wi_if_eq, wi_if_ne, wi_aload_n, wi_iaload, wi_icmp_gt, B_X8_turns_45, wi_goto, B_X8_turns_54, B_X8_turns_55, B_X8_turns_66, B_X8_turns_70, wi_ixor, wi_isub, B_X8_turns_97, B_X8_turns_98, wi_invokestatic, B_X8_turns_101, wi_iadd, wi_icmp_ne, B_X8_turns_116, wi_min, B_X8_turns_131, wi_max, B_X8_turns_138, B_X8_turns_140, wi_iinc, B_X8_turns_146, B_X8_turns_168, B_X8_turns_169, B_X8_turns_172, B_X8_turns_175, B_X8_turns_177, no0, no1, nz1, nz2, nz3, nz4, nz5, nz7, nz8, Classical.not_not, bz0, bz1, wi_nil, ld_0, ld_s, isIv_I, isLv_L, isRv_R, true_and, and_true, lset_0, lset_1, lset_s, avw_I, avw_L, avw_R, clr_cons, clr_nil, kst_0, kst_1, kstL_0, kstL_1, addk_I, pA_0, pA_s, pD_0, pD_s, wid_nil, wid_cons, rcv_c, putv_I, putv_L, List.length_cons, List.length_nil, List.set_cons_zero, List.set_cons_succ, not_false_eq_true, Nat.reduceMod, Nat.reduceDiv, Nat.reduceEqDiff, Nat.reduceLT, Nat.reduceLeDiff, Nat.reduceAdd, Nat.reduceSub, reduceIte, Nat.lt_irrefl, Nat.zero_ne_one, Nat.one_ne_zero, Nat.zero_add, List.nil_append, List.cons_append, Option.toList_some, Option.toList_none, forall_const, false_implies, true_implies, false_or, or_false, true_or, or_true, i_le, i_lt, i_eq, i_eq0, i_lt0, i_0le, i_0lt, i_le0, i_in1, i_cl, nI_add, pk_mul, pk_sub, i_div, i_rem, i_sh1, i_bit, i_or, i_and, i_andn, nt_le, nf_le, nt_lt, nf_lt, nt_eq, nf_eq, not_true_eq_false, and_self, and_false, false_and, eq_self, Bool.toNat_true, Bool.toNat_false, i_bool, i_bool1, Bool.false_eq_true, Bool.true_eq_false, reduceCtorEq, i_neg1, i_neg2, i_neg3, i_neg4, i_neg5, i_neg6, i_neg7, i_neg8, i_neg9, i_nega, i_negb, i_negc, i_max2, i_min2])
        exact q
      · try simp (disch := omega) only [no0, no1, nz1, nz2, nz3, nz4, nz5, nz7, nz8, Classical.not_not, bz0, bz1, wi_nil, ld_0, ld_s, isIv_I, isLv_L, isRv_R, true_and, and_true, lset_0, lset_1, lset_s, avw_I, avw_L, avw_R, clr_cons, clr_nil, kst_0, kst_1, kstL_0, kstL_1, addk_I, pA_0, pA_s, pD_0, pD_s, wid_nil, wid_cons, rcv_c, putv_I, putv_L, List.length_cons, List.length_nil, List.set_cons_zero, List.set_cons_succ, not_false_eq_true, Nat.reduceMod, Nat.reduceDiv, Nat.reduceEqDiff, Nat.reduceLT, Nat.reduceLeDiff, Nat.reduceAdd, Nat.reduceSub, reduceIte, Nat.lt_irrefl, Nat.zero_ne_one, Nat.one_ne_zero, Nat.zero_add, List.nil_append, List.cons_append, Option.toList_some, Option.toList_none, forall_const, false_implies, true_implies, false_or, or_false, true_or, or_true, i_le, i_lt, i_eq, i_eq0, i_lt0, i_0le, i_0lt, i_le0, i_in1, i_cl, nI_add, pk_mul, pk_sub, i_div, i_rem, i_sh1, i_bit, i_or, i_and, i_andn, nt_le, nf_le, nt_lt, nf_lt, nt_eq, nf_eq, not_true_eq_false, and_self, and_false, false_and, eq_self, Bool.toNat_true, Bool.toNat_false, i_bool, i_bool1, Bool.false_eq_true, Bool.true_eq_false, reduceCtorEq, i_neg1, i_neg2, i_neg3, i_neg4, i_neg5, i_neg6, i_neg7, i_neg8, i_neg9, i_nega, i_negb, i_negc, i_max2, i_min2, wrI, wi_nil]
        repeat (
          first
          | refine s_X8_turns_0 ?_
          | refine s_X8_turns_6 ?_
          | refine s_X8_turns_45 ?_
          | refine s_X8_turns_54 ?_
          | refine s_X8_turns_55 ?_
          | refine s_X8_turns_66 ?_
          | refine s_X8_turns_70 ?_
          | refine s_X8_turns_97 ?_
          | refine s_X8_turns_98 ?_
          | refine s_X8_turns_101 ?_
          | refine s_X8_turns_116 ?_
          | refine s_X8_turns_131 ?_
          | refine s_X8_turns_138 ?_
          | refine s_X8_turns_140 ?_
          | refine s_X8_turns_146 ?_
          | refine s_X8_turns_168 ?_
          | refine s_X8_turns_169 ?_
          | refine s_X8_turns_172 ?_
          | refine s_X8_turns_175 ?_
          | refine s_X8_turns_177 ?_
          simp (disch := omega) only [B_X8_turns_0, wi_iload_n, wi_if_gt, wi_iconst, wi_ireturn, B_X8_turns_6, wi_bipush, wi_istore, B_X8_turns_13, wi_iload, wi_icmp_ge, wi_ishl, wi_iand, wi_if_eq, wi_if_ne, wi_aload_n, wi_iaload, wi_icmp_gt, B_X8_turns_45, wi_goto, B_X8_turns_54, B_X8_turns_55, B_X8_turns_66, B_X8_turns_70, wi_ixor, wi_isub, B_X8_turns_97, B_X8_turns_98, wi_invokestatic, B_X8_turns_101, wi_iadd, wi_icmp_ne, B_X8_turns_116, wi_min, B_X8_turns_131, wi_max, B_X8_turns_138, B_X8_turns_140, wi_iinc, B_X8_turns_146, B_X8_turns_168, B_X8_turns_169, B_X8_turns_172, B_X8_turns_175, B_X8_turns_177, no0, no1, nz1, nz2, nz3, nz4, nz5, nz7, nz8, Classical.not_not, bz0, bz1, wi_nil, ld_0, ld_s, isIv_I, isLv_L, isRv_R, true_and, and_true, lset_0, lset_1, lset_s, avw_I, avw_L, avw_R, clr_cons, clr_nil, kst_0, kst_1, kstL_0, kstL_1, addk_I, pA_0, pA_s, pD_0, pD_s, wid_nil, wid_cons, rcv_c, putv_I, putv_L, List.length_cons, List.length_nil, List.set_cons_zero, List.set_cons_succ, not_false_eq_true, Nat.reduceMod, Nat.reduceDiv, Nat.reduceEqDiff, Nat.reduceLT, Nat.reduceLeDiff, Nat.reduceAdd, Nat.reduceSub, reduceIte, Nat.lt_irrefl, Nat.zero_ne_one, Nat.one_ne_zero, Nat.zero_add, List.nil_append, List.cons_append, Option.toList_some, Option.toList_none, forall_const, false_implies, true_implies, false_or, or_false, true_or, or_true, i_le, i_lt, i_eq, i_eq0, i_lt0, i_0le, i_0lt, i_le0, i_in1, i_cl, nI_add, pk_mul, pk_sub, i_div, i_rem, i_sh1, i_bit, i_or, i_and, i_andn, nt_le, nf_le, nt_lt, nf_lt, nt_eq, nf_eq, not_true_eq_false, and_self, and_false, false_and, eq_self, Bool.toNat_true, Bool.toNat_false, i_bool, i_bool1, Bool.false_eq_true, Bool.true_eq_false, reduceCtorEq, i_neg1, i_neg2, i_neg3, i_neg4, i_neg5, i_neg6, i_neg7, i_neg8, i_neg9, i_nega, i_negb, i_negc, i_max2, i_min2, wrI])
        refine r _ hL hw ?_
        try simp (disch := omega) only [no0, no1, nz1, nz2, nz3, nz4, nz5, nz7, nz8, Classical.not_not, bz0, bz1, wi_nil, ld_0, ld_s, isIv_I, isLv_L, isRv_R, true_and, and_true, lset_0, lset_1, lset_s, avw_I, avw_L, avw_R, clr_cons, clr_nil, kst_0, kst_1, kstL_0, kstL_1, addk_I, pA_0, pA_s, pD_0, pD_s, wid_nil, wid_cons, rcv_c, putv_I, putv_L, List.length_cons, List.length_nil, List.set_cons_zero, List.set_cons_succ, not_false_eq_true, Nat.reduceMod, Nat.reduceDiv, Nat.reduceEqDiff, Nat.reduceLT, Nat.reduceLeDiff, Nat.reduceAdd, Nat.reduceSub, reduceIte, Nat.lt_irrefl, Nat.zero_ne_one, Nat.one_ne_zero, Nat.zero_add, List.nil_append, List.cons_append, Option.toList_some, Option.toList_none, forall_const, false_implies, true_implies, false_or, or_false, true_or, or_true, i_le, i_lt, i_eq, i_eq0, i_lt0, i_0le, i_0lt, i_le0, i_in1, i_cl, nI_add, pk_mul, pk_sub, i_div, i_rem, i_sh1, i_bit, i_or, i_and, i_andn, nt_le, nf_le, nt_lt, nf_lt, nt_eq, nf_eq, not_true_eq_false, and_self, and_false, false_and, eq_self, Bool.toNat_true, Bool.toNat_false, i_bool, i_bool1, Bool.false_eq_true, Bool.true_eq_false, reduceCtorEq, i_neg1, i_neg2, i_neg3, i_neg4, i_neg5, i_neg6, i_neg7, i_neg8, i_neg9, i_nega, i_negb, i_negc, i_max2, i_min2, wi_nil]
        repeat (
          first
          | refine s_X8_turns_0 ?_
          | refine s_X8_turns_6 ?_
          | refine s_X8_turns_45 ?_
          | refine s_X8_turns_54 ?_
          | refine s_X8_turns_55 ?_
          | refine s_X8_turns_66 ?_
          | refine s_X8_turns_70 ?_
          | refine s_X8_turns_97 ?_
          | refine s_X8_turns_98 ?_
          | refine s_X8_turns_101 ?_
          | refine s_X8_turns_116 ?_
          | refine s_X8_turns_131 ?_
          | refine s_X8_turns_138 ?_
          | refine s_X8_turns_140 ?_
          | refine s_X8_turns_146 ?_
          | refine s_X8_turns_168 ?_
          | refine s_X8_turns_169 ?_
          | refine s_X8_turns_172 ?_
          | refine s_X8_turns_175 ?_
          | refine s_X8_turns_177 ?_
          simp (disch := omega) only [B_X8_turns_0, wi_iload_n, wi_if_gt, wi_iconst, wi_ireturn, B_X8_turns_6, wi_bipush, wi_istore, B_X8_turns_13, wi_iload, wi_icmp_ge, wi_ishl, wi_iand, wi_if_eq, wi_if_ne, wi_aload_n, wi_iaload, wi_icmp_gt, B_X8_turns_45, wi_goto, B_X8_turns_54, B_X8_turns_55, B_X8_turns_66, B_X8_turns_70, wi_ixor, wi_isub, B_X8_turns_97, B_X8_turns_98, wi_invokestatic, B_X8_turns_101, wi_iadd, wi_icmp_ne, B_X8_turns_116, wi_min, B_X8_turns_131, wi_max, B_X8_turns_138, B_X8_turns_140, wi_iinc, B_X8_turns_146, B_X8_turns_168, B_X8_turns_169, B_X8_turns_172, B_X8_turns_175, B_X8_turns_177, no0, no1, nz1, nz2, nz3, nz4, nz5, nz7, nz8, Classical.not_not, bz0, bz1, wi_nil, ld_0, ld_s, isIv_I, isLv_L, isRv_R, true_and, and_true, lset_0, lset_1, lset_s, avw_I, avw_L, avw_R, clr_cons, clr_nil, kst_0, kst_1, kstL_0, kstL_1, addk_I, pA_0, pA_s, pD_0, pD_s, wid_nil, wid_cons, rcv_c, putv_I, putv_L, List.length_cons, List.length_nil, List.set_cons_zero, List.set_cons_succ, not_false_eq_true, Nat.reduceMod, Nat.reduceDiv, Nat.reduceEqDiff, Nat.reduceLT, Nat.reduceLeDiff, Nat.reduceAdd, Nat.reduceSub, reduceIte, Nat.lt_irrefl, Nat.zero_ne_one, Nat.one_ne_zero, Nat.zero_add, List.nil_append, List.cons_append, Option.toList_some, Option.toList_none, forall_const, false_implies, true_implies, false_or, or_false, true_or, or_true, i_le, i_lt, i_eq, i_eq0, i_lt0, i_0le, i_0lt, i_le0, i_in1, i_cl, nI_add, pk_mul, pk_sub, i_div, i_rem, i_sh1, i_bit, i_or, i_and, i_andn, nt_le, nf_le, nt_lt, nf_lt, nt_eq, nf_eq, not_true_eq_false, and_self, and_false, false_and, eq_self, Bool.toNat_true, Bool.toNat_false, i_bool, i_bool1, Bool.false_eq_true, Bool.true_eq_false, reduceCtorEq, i_neg1, i_neg2, i_neg3, i_neg4, i_neg5, i_neg6, i_neg7, i_neg8, i_neg9, i_nega, i_negb, i_negc, i_max2, i_min2])
        exact q
    | some b =>
      rw [hb] at q
      have q : P (some (aI (nI b))) S := q
      have hb5 : b ≤ k + 1 := by
        refine bo_le (M := k + 1) (fun i _ => ?_) hb
        have := TT_le (c := ycz Y) k (L &&& (31 - 2 ^ i)) ((w : Int) - (if t = true then 0 else (ycz Y i : Int))) (!t)
        try dsimp only
        generalize TT (ycz Y) k (L &&& (31 - 2 ^ i)) ((w : Int) - (if t = true then 0 else (ycz Y i : Int))) (!t) = z at this ⊢
        split <;> omega
      try simp (disch := omega) only [no0, no1, nz1, nz2, nz3, nz4, nz5, nz7, nz8, Classical.not_not, bz0, bz1, wi_nil, ld_0, ld_s, isIv_I, isLv_L, isRv_R, true_and, and_true, lset_0, lset_1, lset_s, avw_I, avw_L, avw_R, clr_cons, clr_nil, kst_0, kst_1, kstL_0, kstL_1, addk_I, pA_0, pA_s, pD_0, pD_s, wid_nil, wid_cons, rcv_c, putv_I, putv_L, List.length_cons, List.length_nil, List.set_cons_zero, List.set_cons_succ, not_false_eq_true, Nat.reduceMod, Nat.reduceDiv, Nat.reduceEqDiff, Nat.reduceLT, Nat.reduceLeDiff, Nat.reduceAdd, Nat.reduceSub, reduceIte, Nat.lt_irrefl, Nat.zero_ne_one, Nat.one_ne_zero, Nat.zero_add, List.nil_append, List.cons_append, Option.toList_some, Option.toList_none, forall_const, false_implies, true_implies, false_or, or_false, true_or, or_true, i_le, i_lt, i_eq, i_eq0, i_lt0, i_0le, i_0lt, i_le0, i_in1, i_cl, nI_add, pk_mul, pk_sub, i_div, i_rem, i_sh1, i_bit, i_or, i_and, i_andn, nt_le, nf_le, nt_lt, nf_lt, nt_eq, nf_eq, not_true_eq_false, and_self, and_false, false_and, eq_self, Bool.toNat_true, Bool.toNat_false, i_bool, i_bool1, Bool.false_eq_true, Bool.true_eq_false, reduceCtorEq, i_neg1, i_neg2, i_neg3, i_neg4, i_neg5, i_neg6, i_neg7, i_neg8, i_neg9, i_nega, i_negb, i_negc, i_max2, i_min2, wrI, wi_nil]
      repeat (
        first
        | refine s_X8_turns_0 ?_
        | refine s_X8_turns_6 ?_
        | refine s_X8_turns_45 ?_
        | refine s_X8_turns_54 ?_
        | refine s_X8_turns_55 ?_
        | refine s_X8_turns_66 ?_
        | refine s_X8_turns_70 ?_
        | refine s_X8_turns_97 ?_
        | refine s_X8_turns_98 ?_
        | refine s_X8_turns_101 ?_
        | refine s_X8_turns_116 ?_
        | refine s_X8_turns_131 ?_
        | refine s_X8_turns_138 ?_
        | refine s_X8_turns_140 ?_
        | refine s_X8_turns_146 ?_
        | refine s_X8_turns_168 ?_
        | refine s_X8_turns_169 ?_
        | refine s_X8_turns_172 ?_
        | refine s_X8_turns_175 ?_
        | refine s_X8_turns_177 ?_
        simp (disch := omega) only [B_X8_turns_0, wi_iload_n, wi_if_gt, wi_iconst, wi_ireturn, B_X8_turns_6, wi_bipush, wi_istore, B_X8_turns_13, wi_iload, wi_icmp_ge, wi_ishl, wi_iand, wi_if_eq, wi_if_ne, wi_aload_n, wi_iaload, wi_icmp_gt, B_X8_turns_45, wi_goto, B_X8_turns_54, B_X8_turns_55, B_X8_turns_66, B_X8_turns_70, wi_ixor, wi_isub, B_X8_turns_97, B_X8_turns_98, wi_invokestatic, B_X8_turns_101, wi_iadd, wi_icmp_ne, B_X8_turns_116, wi_min, B_X8_turns_131, wi_max, B_X8_turns_138, B_X8_turns_140, wi_iinc, B_X8_turns_146, B_X8_turns_168, B_X8_turns_169, B_X8_turns_172, B_X8_turns_175, B_X8_turns_177, no0, no1, nz1, nz2, nz3, nz4, nz5, nz7, nz8, Classical.not_not, bz0, bz1, wi_nil, ld_0, ld_s, isIv_I, isLv_L, isRv_R, true_and, and_true, lset_0, lset_1, lset_s, avw_I, avw_L, avw_R, clr_cons, clr_nil, kst_0, kst_1, kstL_0, kstL_1, addk_I, pA_0, pA_s, pD_0, pD_s, wid_nil, wid_cons, rcv_c, putv_I, putv_L, List.length_cons, List.length_nil, List.set_cons_zero, List.set_cons_succ, not_false_eq_true, Nat.reduceMod, Nat.reduceDiv, Nat.reduceEqDiff, Nat.reduceLT, Nat.reduceLeDiff, Nat.reduceAdd, Nat.reduceSub, reduceIte, Nat.lt_irrefl, Nat.zero_ne_one, Nat.one_ne_zero, Nat.zero_add, List.nil_append, List.cons_append, Option.toList_some, Option.toList_none, forall_const, false_implies, true_implies, false_or, or_false, true_or, or_true, i_le, i_lt, i_eq, i_eq0, i_lt0, i_0le, i_0lt, i_le0, i_in1, i_cl, nI_add, pk_mul, pk_sub, i_div, i_rem, i_sh1, i_bit, i_or, i_and, i_andn, nt_le, nf_le, nt_lt, nf_lt, nt_eq, nf_eq, not_true_eq_false, and_self, and_false, false_and, eq_self, Bool.toNat_true, Bool.toNat_false, i_bool, i_bool1, Bool.false_eq_true, Bool.true_eq_false, reduceCtorEq, i_neg1, i_neg2, i_neg3, i_neg4, i_neg5, i_neg6, i_neg7, i_neg8, i_neg9, i_nega, i_negb, i_negc, i_max2, i_min2, wrI])
      exact q
  | succ m ih =>
    intro i hi
    have hi5 : i < 5 := by omega
    have h2i := p2i hi5
    have a1 : L &&& 2 ^ i < 32 := and_lt32 hL
    have hnx := ih (i + 1) (by omega)
    have hbit : (L &&& 2 ^ i = 0) = (L.testBit i = false) := propext (fb_bit_nat L i)
    have hsb : gA S 26 1 (2 ^ i) = nI (ycz Y i) := by rw [hs _ h2i, csum_pow hi5]
    have hz : ycz Y i ≤ 18 := by
      unfold ycz
      split
      · rename_i h; exact yc_le ho h
      · omega
    have hrm := rm_lt (m := 31 - 2 ^ i) hL
    rw [boF] at hnx
    generalize hG : boF (fun i => L.testBit i && (t || decide ((ycz Y i : Int) ≤ (w : Int)))) (fun i => (if t = true then 0 else 1) + TT (ycz Y) k (L &&& (31 - 2 ^ i)) ((w : Int) - (if t = true then 0 else (ycz Y i : Int))) (!t)) t i = G at hnx ⊢
    have hGle : ∀ b, G = some b → b ≤ k + 1 := by
      intro b hb
      refine bo_le (M := k + 1) (fun i _ => ?_) (hG.trans hb)
      have := TT_le (c := ycz Y) k (L &&& (31 - 2 ^ i)) ((w : Int) - (if t = true then 0 else (ycz Y i : Int))) (!t)
      try dsimp only
      generalize TT (ycz Y) k (L &&& (31 - 2 ^ i)) ((w : Int) - (if t = true then 0 else (ycz Y i : Int))) (!t) = z at this ⊢
      split <;> omega
    cases hb : L.testBit i
    · rw [hb, Bool.false_and, if_neg (by decide)] at hnx
      refine s_X8_turns_13 ?_
      simp (disch := omega) only [B_X8_turns_13, wi_iload, wi_iconst, wi_icmp_ge, wi_ishl, wi_istore, wi_iload_n, wi_iand, wi_if_eq, wi_if_ne, wi_aload_n, wi_iaload, wi_icmp_gt, no0, no1, nz1, nz2, nz3, nz4, nz5, nz7, nz8, Classical.not_not, bz0, bz1, wi_nil, ld_0, ld_s, isIv_I, isLv_L, isRv_R, true_and, and_true, lset_0, lset_1, lset_s, avw_I, avw_L, avw_R, clr_cons, clr_nil, kst_0, kst_1, kstL_0, kstL_1, addk_I, pA_0, pA_s, pD_0, pD_s, wid_nil, wid_cons, rcv_c, putv_I, putv_L, List.length_cons, List.length_nil, List.set_cons_zero, List.set_cons_succ, not_false_eq_true, Nat.reduceMod, Nat.reduceDiv, Nat.reduceEqDiff, Nat.reduceLT, Nat.reduceLeDiff, Nat.reduceAdd, Nat.reduceSub, reduceIte, Nat.lt_irrefl, Nat.zero_ne_one, Nat.one_ne_zero, Nat.zero_add, List.nil_append, List.cons_append, Option.toList_some, Option.toList_none, forall_const, false_implies, true_implies, false_or, or_false, true_or, or_true, i_le, i_lt, i_eq, i_eq0, i_lt0, i_0le, i_0lt, i_le0, i_in1, i_cl, nI_add, pk_mul, pk_sub, i_div, i_rem, i_sh1, i_bit, i_or, i_and, i_andn, nt_le, nf_le, nt_lt, nf_lt, nt_eq, nf_eq, not_true_eq_false, and_self, and_false, false_and, eq_self, Bool.toNat_true, Bool.toNat_false, i_bool, i_bool1, Bool.false_eq_true, Bool.true_eq_false, reduceCtorEq, i_neg1, i_neg2, i_neg3, i_neg4, i_neg5, i_neg6, i_neg7, i_neg8, i_neg9, i_nega, i_negb, i_negc, i_max2, i_min2, hbit, hb]
      try simp (disch := omega) only [no0, no1, nz1, nz2, nz3, nz4, nz5, nz7, nz8, Classical.not_not, bz0, bz1, wi_nil, ld_0, ld_s, isIv_I, isLv_L, isRv_R, true_and, and_true, lset_0, lset_1, lset_s, avw_I, avw_L, avw_R, clr_cons, clr_nil, kst_0, kst_1, kstL_0, kstL_1, addk_I, pA_0, pA_s, pD_0, pD_s, wid_nil, wid_cons, rcv_c, putv_I, putv_L, List.length_cons, List.length_nil, List.set_cons_zero, List.set_cons_succ, not_false_eq_true, Nat.reduceMod, Nat.reduceDiv, Nat.reduceEqDiff, Nat.reduceLT, Nat.reduceLeDiff, Nat.reduceAdd, Nat.reduceSub, reduceIte, Nat.lt_irrefl, Nat.zero_ne_one, Nat.one_ne_zero, Nat.zero_add, List.nil_append, List.cons_append, Option.toList_some, Option.toList_none, forall_const, false_implies, true_implies, false_or, or_false, true_or, or_true, i_le, i_lt, i_eq, i_eq0, i_lt0, i_0le, i_0lt, i_le0, i_in1, i_cl, nI_add, pk_mul, pk_sub, i_div, i_rem, i_sh1, i_bit, i_or, i_and, i_andn, nt_le, nf_le, nt_lt, nf_lt, nt_eq, nf_eq, not_true_eq_false, and_self, and_false, false_and, eq_self, Bool.toNat_true, Bool.toNat_false, i_bool, i_bool1, Bool.false_eq_true, Bool.true_eq_false, reduceCtorEq, i_neg1, i_neg2, i_neg3, i_neg4, i_neg5, i_neg6, i_neg7, i_neg8, i_neg9, i_nega, i_negb, i_negc, i_max2, i_min2, wi_nil]
      repeat (
        first
        | refine s_X8_turns_0 ?_
        | refine s_X8_turns_6 ?_
        | refine s_X8_turns_45 ?_
        | refine s_X8_turns_54 ?_
        | refine s_X8_turns_55 ?_
        | refine s_X8_turns_66 ?_
        | refine s_X8_turns_70 ?_
        | refine s_X8_turns_97 ?_
        | refine s_X8_turns_98 ?_
        | refine s_X8_turns_101 ?_
        | refine s_X8_turns_116 ?_
        | refine s_X8_turns_131 ?_
        | refine s_X8_turns_138 ?_
        | refine s_X8_turns_140 ?_
        | refine s_X8_turns_146 ?_
        | refine s_X8_turns_168 ?_
        | refine s_X8_turns_169 ?_
        | refine s_X8_turns_172 ?_
        | refine s_X8_turns_175 ?_
        | refine s_X8_turns_177 ?_
        simp (disch := omega) only [B_X8_turns_0, wi_iload_n, wi_if_gt, wi_iconst, wi_ireturn, B_X8_turns_6, wi_bipush, wi_istore, B_X8_turns_13, wi_iload, wi_icmp_ge, wi_ishl, wi_iand, wi_if_eq, wi_if_ne, wi_aload_n, wi_iaload, wi_icmp_gt, B_X8_turns_45, wi_goto, B_X8_turns_54, B_X8_turns_55, B_X8_turns_66, B_X8_turns_70, wi_ixor, wi_isub, B_X8_turns_97, B_X8_turns_98, wi_invokestatic, B_X8_turns_101, wi_iadd, wi_icmp_ne, B_X8_turns_116, wi_min, B_X8_turns_131, wi_max, B_X8_turns_138, B_X8_turns_140, wi_iinc, B_X8_turns_146, B_X8_turns_168, B_X8_turns_169, B_X8_turns_172, B_X8_turns_175, B_X8_turns_177, no0, no1, nz1, nz2, nz3, nz4, nz5, nz7, nz8, Classical.not_not, bz0, bz1, wi_nil, ld_0, ld_s, isIv_I, isLv_L, isRv_R, true_and, and_true, lset_0, lset_1, lset_s, avw_I, avw_L, avw_R, clr_cons, clr_nil, kst_0, kst_1, kstL_0, kstL_1, addk_I, pA_0, pA_s, pD_0, pD_s, wid_nil, wid_cons, rcv_c, putv_I, putv_L, List.length_cons, List.length_nil, List.set_cons_zero, List.set_cons_succ, not_false_eq_true, Nat.reduceMod, Nat.reduceDiv, Nat.reduceEqDiff, Nat.reduceLT, Nat.reduceLeDiff, Nat.reduceAdd, Nat.reduceSub, reduceIte, Nat.lt_irrefl, Nat.zero_ne_one, Nat.one_ne_zero, Nat.zero_add, List.nil_append, List.cons_append, Option.toList_some, Option.toList_none, forall_const, false_implies, true_implies, false_or, or_false, true_or, or_true, i_le, i_lt, i_eq, i_eq0, i_lt0, i_0le, i_0lt, i_le0, i_in1, i_cl, nI_add, pk_mul, pk_sub, i_div, i_rem, i_sh1, i_bit, i_or, i_and, i_andn, nt_le, nf_le, nt_lt, nf_lt, nt_eq, nf_eq, not_true_eq_false, and_self, and_false, false_and, eq_self, Bool.toNat_true, Bool.toNat_false, i_bool, i_bool1, Bool.false_eq_true, Bool.true_eq_false, reduceCtorEq, i_neg1, i_neg2, i_neg3, i_neg4, i_neg5, i_neg6, i_neg7, i_neg8, i_neg9, i_nega, i_negb, i_negc, i_max2, i_min2])
      exact hnx
    · rw [hb, Bool.true_and] at hnx
      cases t
      · rw [Bool.false_or] at hnx
        have hsum : ∀ b, G = some b → b < 100 := fun b hb => by have := hGle b hb; omega
        by_cases c : ycz Y i ≤ w
        · rw [if_pos (decide_eq_true (by omega)), show ((w : Int) - (if false = true then 0 else (ycz Y i : Int))) = ((w - ycz Y i : Nat) : Int) by rw [if_neg (by decide)]; omega] at hnx
          have hT := TT_le (c := ycz Y) k (L &&& (31 - 2 ^ i)) ((w - ycz Y i : Nat) : Int) (!false)
          have r := rec (L &&& (31 - 2 ^ i)) (w - ycz Y i)
          refine s_X8_turns_13 ?_
          simp (disch := omega) only [B_X8_turns_13, wi_iload, wi_iconst, wi_icmp_ge, wi_ishl, wi_istore, wi_iload_n, wi_iand, wi_if_eq, wi_if_ne, wi_aload_n, wi_iaload, wi_icmp_gt, cnt_26, aTy_26, aLn_26, arr_26, no0, no1, nz1, nz2, nz3, nz4, nz5, nz7, nz8, Classical.not_not, bz0, bz1, wi_nil, ld_0, ld_s, isIv_I, isLv_L, isRv_R, true_and, and_true, lset_0, lset_1, lset_s, avw_I, avw_L, avw_R, clr_cons, clr_nil, kst_0, kst_1, kstL_0, kstL_1, addk_I, pA_0, pA_s, pD_0, pD_s, wid_nil, wid_cons, rcv_c, putv_I, putv_L, List.length_cons, List.length_nil, List.set_cons_zero, List.set_cons_succ, not_false_eq_true, Nat.reduceMod, Nat.reduceDiv, Nat.reduceEqDiff, Nat.reduceLT, Nat.reduceLeDiff, Nat.reduceAdd, Nat.reduceSub, reduceIte, Nat.lt_irrefl, Nat.zero_ne_one, Nat.one_ne_zero, Nat.zero_add, List.nil_append, List.cons_append, Option.toList_some, Option.toList_none, forall_const, false_implies, true_implies, false_or, or_false, true_or, or_true, i_le, i_lt, i_eq, i_eq0, i_lt0, i_0le, i_0lt, i_le0, i_in1, i_cl, nI_add, pk_mul, pk_sub, i_div, i_rem, i_sh1, i_bit, i_or, i_and, i_andn, nt_le, nf_le, nt_lt, nf_lt, nt_eq, nf_eq, not_true_eq_false, and_self, and_false, false_and, eq_self, Bool.toNat_true, Bool.toNat_false, i_bool, i_bool1, Bool.false_eq_true, Bool.true_eq_false, reduceCtorEq, i_neg1, i_neg2, i_neg3, i_neg4, i_neg5, i_neg6, i_neg7, i_neg8, i_neg9, i_nega, i_negb, i_negc, i_max2, i_min2, hbit, hb, hsb]
          try simp (disch := omega) only [no0, no1, nz1, nz2, nz3, nz4, nz5, nz7, nz8, Classical.not_not, bz0, bz1, wi_nil, ld_0, ld_s, isIv_I, isLv_L, isRv_R, true_and, and_true, lset_0, lset_1, lset_s, avw_I, avw_L, avw_R, clr_cons, clr_nil, kst_0, kst_1, kstL_0, kstL_1, addk_I, pA_0, pA_s, pD_0, pD_s, wid_nil, wid_cons, rcv_c, putv_I, putv_L, List.length_cons, List.length_nil, List.set_cons_zero, List.set_cons_succ, not_false_eq_true, Nat.reduceMod, Nat.reduceDiv, Nat.reduceEqDiff, Nat.reduceLT, Nat.reduceLeDiff, Nat.reduceAdd, Nat.reduceSub, reduceIte, Nat.lt_irrefl, Nat.zero_ne_one, Nat.one_ne_zero, Nat.zero_add, List.nil_append, List.cons_append, Option.toList_some, Option.toList_none, forall_const, false_implies, true_implies, false_or, or_false, true_or, or_true, i_le, i_lt, i_eq, i_eq0, i_lt0, i_0le, i_0lt, i_le0, i_in1, i_cl, nI_add, pk_mul, pk_sub, i_div, i_rem, i_sh1, i_bit, i_or, i_and, i_andn, nt_le, nf_le, nt_lt, nf_lt, nt_eq, nf_eq, not_true_eq_false, and_self, and_false, false_and, eq_self, Bool.toNat_true, Bool.toNat_false, i_bool, i_bool1, Bool.false_eq_true, Bool.true_eq_false, reduceCtorEq, i_neg1, i_neg2, i_neg3, i_neg4, i_neg5, i_neg6, i_neg7, i_neg8, i_neg9, i_nega, i_negb, i_negc, i_max2, i_min2, hsb, wi_nil]
          repeat (
            first
            | refine s_X8_turns_0 ?_
            | refine s_X8_turns_6 ?_
            | refine s_X8_turns_45 ?_
            | refine s_X8_turns_54 ?_
            | refine s_X8_turns_55 ?_
            | refine s_X8_turns_66 ?_
            | refine s_X8_turns_70 ?_
            | refine s_X8_turns_97 ?_
            | refine s_X8_turns_98 ?_
            | refine s_X8_turns_101 ?_
            | refine s_X8_turns_116 ?_
            | refine s_X8_turns_131 ?_
            | refine s_X8_turns_138 ?_
            | refine s_X8_turns_140 ?_
            | refine s_X8_turns_146 ?_
            | refine s_X8_turns_168 ?_
            | refine s_X8_turns_169 ?_
            | refine s_X8_turns_172 ?_
            | refine s_X8_turns_175 ?_
            | refine s_X8_turns_177 ?_
            simp (disch := omega) only [B_X8_turns_0, wi_iload_n, wi_if_gt, wi_iconst, wi_ireturn, B_X8_turns_6, wi_bipush, wi_istore, B_X8_turns_13, wi_iload, wi_icmp_ge, wi_ishl, wi_iand, wi_if_eq, wi_if_ne, wi_aload_n, wi_iaload, wi_icmp_gt, cnt_26, aTy_26, aLn_26, arr_26, B_X8_turns_45, wi_goto, B_X8_turns_54, B_X8_turns_55, B_X8_turns_66, B_X8_turns_70, wi_ixor, wi_isub, B_X8_turns_97, B_X8_turns_98, wi_invokestatic, B_X8_turns_101, wi_iadd, wi_icmp_ne, B_X8_turns_116, wi_min, B_X8_turns_131, wi_max, B_X8_turns_138, B_X8_turns_140, wi_iinc, B_X8_turns_146, B_X8_turns_168, B_X8_turns_169, B_X8_turns_172, B_X8_turns_175, B_X8_turns_177, no0, no1, nz1, nz2, nz3, nz4, nz5, nz7, nz8, Classical.not_not, bz0, bz1, wi_nil, ld_0, ld_s, isIv_I, isLv_L, isRv_R, true_and, and_true, lset_0, lset_1, lset_s, avw_I, avw_L, avw_R, clr_cons, clr_nil, kst_0, kst_1, kstL_0, kstL_1, addk_I, pA_0, pA_s, pD_0, pD_s, wid_nil, wid_cons, rcv_c, putv_I, putv_L, List.length_cons, List.length_nil, List.set_cons_zero, List.set_cons_succ, not_false_eq_true, Nat.reduceMod, Nat.reduceDiv, Nat.reduceEqDiff, Nat.reduceLT, Nat.reduceLeDiff, Nat.reduceAdd, Nat.reduceSub, reduceIte, Nat.lt_irrefl, Nat.zero_ne_one, Nat.one_ne_zero, Nat.zero_add, List.nil_append, List.cons_append, Option.toList_some, Option.toList_none, forall_const, false_implies, true_implies, false_or, or_false, true_or, or_true, i_le, i_lt, i_eq, i_eq0, i_lt0, i_0le, i_0lt, i_le0, i_in1, i_cl, nI_add, pk_mul, pk_sub, i_div, i_rem, i_sh1, i_bit, i_or, i_and, i_andn, nt_le, nf_le, nt_lt, nf_lt, nt_eq, nf_eq, not_true_eq_false, and_self, and_false, false_and, eq_self, Bool.toNat_true, Bool.toNat_false, i_bool, i_bool1, Bool.false_eq_true, Bool.true_eq_false, reduceCtorEq, i_neg1, i_neg2, i_neg3, i_neg4, i_neg5, i_neg6, i_neg7, i_neg8, i_neg9, i_nega, i_negb, i_negc, i_max2, i_min2, hsb])
          refine r _ hrm (by omega) ?_
          rw [if_neg (by decide)] at hnx
          cases hGc : G with
          | none =>
            rw [hGc] at hnx
            try simp (disch := omega) only [no0, no1, nz1, nz2, nz3, nz4, nz5, nz7, nz8, Classical.not_not, bz0, bz1, wi_nil, ld_0, ld_s, isIv_I, isLv_L, isRv_R, true_and, and_true, lset_0, lset_1, lset_s, avw_I, avw_L, avw_R, clr_cons, clr_nil, kst_0, kst_1, kstL_0, kstL_1, addk_I, pA_0, pA_s, pD_0, pD_s, wid_nil, wid_cons, rcv_c, putv_I, putv_L, List.length_cons, List.length_nil, List.set_cons_zero, List.set_cons_succ, not_false_eq_true, Nat.reduceMod, Nat.reduceDiv, Nat.reduceEqDiff, Nat.reduceLT, Nat.reduceLeDiff, Nat.reduceAdd, Nat.reduceSub, reduceIte, Nat.lt_irrefl, Nat.zero_ne_one, Nat.one_ne_zero, Nat.zero_add, List.nil_append, List.cons_append, Option.toList_some, Option.toList_none, forall_const, false_implies, true_implies, false_or, or_false, true_or, or_true, i_le, i_lt, i_eq, i_eq0, i_lt0, i_0le, i_0lt, i_le0, i_in1, i_cl, nI_add, pk_mul, pk_sub, i_div, i_rem, i_sh1, i_bit, i_or, i_and, i_andn, nt_le, nf_le, nt_lt, nf_lt, nt_eq, nf_eq, not_true_eq_false, and_self, and_false, false_and, eq_self, Bool.toNat_true, Bool.toNat_false, i_bool, i_bool1, Bool.false_eq_true, Bool.true_eq_false, reduceCtorEq, i_neg1, i_neg2, i_neg3, i_neg4, i_neg5, i_neg6, i_neg7, i_neg8, i_neg9, i_nega, i_negb, i_negc, i_max2, i_min2, wrI, wi_nil]
            repeat (
              first
              | refine s_X8_turns_0 ?_
              | refine s_X8_turns_6 ?_
              | refine s_X8_turns_45 ?_
              | refine s_X8_turns_54 ?_
              | refine s_X8_turns_55 ?_
              | refine s_X8_turns_66 ?_
              | refine s_X8_turns_70 ?_
              | refine s_X8_turns_97 ?_
              | refine s_X8_turns_98 ?_
              | refine s_X8_turns_101 ?_
              | refine s_X8_turns_116 ?_
              | refine s_X8_turns_131 ?_
              | refine s_X8_turns_138 ?_
              | refine s_X8_turns_140 ?_
              | refine s_X8_turns_146 ?_
              | refine s_X8_turns_168 ?_
              | refine s_X8_turns_169 ?_
              | refine s_X8_turns_172 ?_
              | refine s_X8_turns_175 ?_
              | refine s_X8_turns_177 ?_
              simp (disch := omega) only [B_X8_turns_0, wi_iload_n, wi_if_gt, wi_iconst, wi_ireturn, B_X8_turns_6, wi_bipush, wi_istore, B_X8_turns_13, wi_iload, wi_icmp_ge, wi_ishl, wi_iand, wi_if_eq, wi_if_ne, wi_aload_n, wi_iaload, wi_icmp_gt, B_X8_turns_45, wi_goto, B_X8_turns_54, B_X8_turns_55, B_X8_turns_66, B_X8_turns_70, wi_ixor, wi_isub, B_X8_turns_97, B_X8_turns_98, wi_invokestatic, B_X8_turns_101, wi_iadd, wi_icmp_ne, B_X8_turns_116, wi_min, B_X8_turns_131, wi_max, B_X8_turns_138, B_X8_turns_140, wi_iinc, B_X8_turns_146, B_X8_turns_168, B_X8_turns_169, B_X8_turns_172, B_X8_turns_175, B_X8_turns_177, no0, no1, nz1, nz2, nz3, nz4, nz5, nz7, nz8, Classical.not_not, bz0, bz1, wi_nil, ld_0, ld_s, isIv_I, isLv_L, isRv_R, true_and, and_true, lset_0, lset_1, lset_s, avw_I, avw_L, avw_R, clr_cons, clr_nil, kst_0, kst_1, kstL_0, kstL_1, addk_I, pA_0, pA_s, pD_0, pD_s, wid_nil, wid_cons, rcv_c, putv_I, putv_L, List.length_cons, List.length_nil, List.set_cons_zero, List.set_cons_succ, not_false_eq_true, Nat.reduceMod, Nat.reduceDiv, Nat.reduceEqDiff, Nat.reduceLT, Nat.reduceLeDiff, Nat.reduceAdd, Nat.reduceSub, reduceIte, Nat.lt_irrefl, Nat.zero_ne_one, Nat.one_ne_zero, Nat.zero_add, List.nil_append, List.cons_append, Option.toList_some, Option.toList_none, forall_const, false_implies, true_implies, false_or, or_false, true_or, or_true, i_le, i_lt, i_eq, i_eq0, i_lt0, i_0le, i_0lt, i_le0, i_in1, i_cl, nI_add, pk_mul, pk_sub, i_div, i_rem, i_sh1, i_bit, i_or, i_and, i_andn, nt_le, nf_le, nt_lt, nf_lt, nt_eq, nf_eq, not_true_eq_false, and_self, and_false, false_and, eq_self, Bool.toNat_true, Bool.toNat_false, i_bool, i_bool1, Bool.false_eq_true, Bool.true_eq_false, reduceCtorEq, i_neg1, i_neg2, i_neg3, i_neg4, i_neg5, i_neg6, i_neg7, i_neg8, i_neg9, i_nega, i_negb, i_negc, i_max2, i_min2, wrI])
            exact hnx
          | some b =>
            have hb9 := hsum b hGc
            rw [hGc] at hnx
            try dsimp only at hnx
            rw [if_neg (by decide)] at hnx
            try simp (disch := omega) only [no0, no1, nz1, nz2, nz3, nz4, nz5, nz7, nz8, Classical.not_not, bz0, bz1, wi_nil, ld_0, ld_s, isIv_I, isLv_L, isRv_R, true_and, and_true, lset_0, lset_1, lset_s, avw_I, avw_L, avw_R, clr_cons, clr_nil, kst_0, kst_1, kstL_0, kstL_1, addk_I, pA_0, pA_s, pD_0, pD_s, wid_nil, wid_cons, rcv_c, putv_I, putv_L, List.length_cons, List.length_nil, List.set_cons_zero, List.set_cons_succ, not_false_eq_true, Nat.reduceMod, Nat.reduceDiv, Nat.reduceEqDiff, Nat.reduceLT, Nat.reduceLeDiff, Nat.reduceAdd, Nat.reduceSub, reduceIte, Nat.lt_irrefl, Nat.zero_ne_one, Nat.one_ne_zero, Nat.zero_add, List.nil_append, List.cons_append, Option.toList_some, Option.toList_none, forall_const, false_implies, true_implies, false_or, or_false, true_or, or_true, i_le, i_lt, i_eq, i_eq0, i_lt0, i_0le, i_0lt, i_le0, i_in1, i_cl, nI_add, pk_mul, pk_sub, i_div, i_rem, i_sh1, i_bit, i_or, i_and, i_andn, nt_le, nf_le, nt_lt, nf_lt, nt_eq, nf_eq, not_true_eq_false, and_self, and_false, false_and, eq_self, Bool.toNat_true, Bool.toNat_false, i_bool, i_bool1, Bool.false_eq_true, Bool.true_eq_false, reduceCtorEq, i_neg1, i_neg2, i_neg3, i_neg4, i_neg5, i_neg6, i_neg7, i_neg8, i_neg9, i_nega, i_negb, i_negc, i_max2, i_min2, wrI, wi_nil]
            repeat (
              first
              | refine s_X8_turns_0 ?_
              | refine s_X8_turns_6 ?_
              | refine s_X8_turns_45 ?_
              | refine s_X8_turns_54 ?_
              | refine s_X8_turns_55 ?_
              | refine s_X8_turns_66 ?_
              | refine s_X8_turns_70 ?_
              | refine s_X8_turns_97 ?_
              | refine s_X8_turns_98 ?_
              | refine s_X8_turns_101 ?_
              | refine s_X8_turns_116 ?_
              | refine s_X8_turns_131 ?_
              | refine s_X8_turns_138 ?_
              | refine s_X8_turns_140 ?_
              | refine s_X8_turns_146 ?_
              | refine s_X8_turns_168 ?_
              | refine s_X8_turns_169 ?_
              | refine s_X8_turns_172 ?_
              | refine s_X8_turns_175 ?_
              | refine s_X8_turns_177 ?_
              simp (disch := omega) only [B_X8_turns_0, wi_iload_n, wi_if_gt, wi_iconst, wi_ireturn, B_X8_turns_6, wi_bipush, wi_istore, B_X8_turns_13, wi_iload, wi_icmp_ge, wi_ishl, wi_iand, wi_if_eq, wi_if_ne, wi_aload_n, wi_iaload, wi_icmp_gt, B_X8_turns_45, wi_goto, B_X8_turns_54, B_X8_turns_55, B_X8_turns_66, B_X8_turns_70, wi_ixor, wi_isub, B_X8_turns_97, B_X8_turns_98, wi_invokestatic, B_X8_turns_101, wi_iadd, wi_icmp_ne, B_X8_turns_116, wi_min, B_X8_turns_131, wi_max, B_X8_turns_138, B_X8_turns_140, wi_iinc, B_X8_turns_146, B_X8_turns_168, B_X8_turns_169, B_X8_turns_172, B_X8_turns_175, B_X8_turns_177, no0, no1, nz1, nz2, nz3, nz4, nz5, nz7, nz8, Classical.not_not, bz0, bz1, wi_nil, ld_0, ld_s, isIv_I, isLv_L, isRv_R, true_and, and_true, lset_0, lset_1, lset_s, avw_I, avw_L, avw_R, clr_cons, clr_nil, kst_0, kst_1, kstL_0, kstL_1, addk_I, pA_0, pA_s, pD_0, pD_s, wid_nil, wid_cons, rcv_c, putv_I, putv_L, List.length_cons, List.length_nil, List.set_cons_zero, List.set_cons_succ, not_false_eq_true, Nat.reduceMod, Nat.reduceDiv, Nat.reduceEqDiff, Nat.reduceLT, Nat.reduceLeDiff, Nat.reduceAdd, Nat.reduceSub, reduceIte, Nat.lt_irrefl, Nat.zero_ne_one, Nat.one_ne_zero, Nat.zero_add, List.nil_append, List.cons_append, Option.toList_some, Option.toList_none, forall_const, false_implies, true_implies, false_or, or_false, true_or, or_true, i_le, i_lt, i_eq, i_eq0, i_lt0, i_0le, i_0lt, i_le0, i_in1, i_cl, nI_add, pk_mul, pk_sub, i_div, i_rem, i_sh1, i_bit, i_or, i_and, i_andn, nt_le, nf_le, nt_lt, nf_lt, nt_eq, nf_eq, not_true_eq_false, and_self, and_false, false_and, eq_self, Bool.toNat_true, Bool.toNat_false, i_bool, i_bool1, Bool.false_eq_true, Bool.true_eq_false, reduceCtorEq, i_neg1, i_neg2, i_neg3, i_neg4, i_neg5, i_neg6, i_neg7, i_neg8, i_neg9, i_nega, i_negb, i_negc, i_max2, i_min2, wrI])
            exact hnx
        · rw [if_neg (fun z => c (by have := of_decide_eq_true z; omega))] at hnx
          refine s_X8_turns_13 ?_
          simp (disch := omega) only [B_X8_turns_13, wi_iload, wi_iconst, wi_icmp_ge, wi_ishl, wi_istore, wi_iload_n, wi_iand, wi_if_eq, wi_if_ne, wi_aload_n, wi_iaload, wi_icmp_gt, cnt_26, aTy_26, aLn_26, arr_26, no0, no1, nz1, nz2, nz3, nz4, nz5, nz7, nz8, Classical.not_not, bz0, bz1, wi_nil, ld_0, ld_s, isIv_I, isLv_L, isRv_R, true_and, and_true, lset_0, lset_1, lset_s, avw_I, avw_L, avw_R, clr_cons, clr_nil, kst_0, kst_1, kstL_0, kstL_1, addk_I, pA_0, pA_s, pD_0, pD_s, wid_nil, wid_cons, rcv_c, putv_I, putv_L, List.length_cons, List.length_nil, List.set_cons_zero, List.set_cons_succ, not_false_eq_true, Nat.reduceMod, Nat.reduceDiv, Nat.reduceEqDiff, Nat.reduceLT, Nat.reduceLeDiff, Nat.reduceAdd, Nat.reduceSub, reduceIte, Nat.lt_irrefl, Nat.zero_ne_one, Nat.one_ne_zero, Nat.zero_add, List.nil_append, List.cons_append, Option.toList_some, Option.toList_none, forall_const, false_implies, true_implies, false_or, or_false, true_or, or_true, i_le, i_lt, i_eq, i_eq0, i_lt0, i_0le, i_0lt, i_le0, i_in1, i_cl, nI_add, pk_mul, pk_sub, i_div, i_rem, i_sh1, i_bit, i_or, i_and, i_andn, nt_le, nf_le, nt_lt, nf_lt, nt_eq, nf_eq, not_true_eq_false, and_self, and_false, false_and, eq_self, Bool.toNat_true, Bool.toNat_false, i_bool, i_bool1, Bool.false_eq_true, Bool.true_eq_false, reduceCtorEq, i_neg1, i_neg2, i_neg3, i_neg4, i_neg5, i_neg6, i_neg7, i_neg8, i_neg9, i_nega, i_negb, i_negc, i_max2, i_min2, hbit, hb, hsb]
          try simp (disch := omega) only [no0, no1, nz1, nz2, nz3, nz4, nz5, nz7, nz8, Classical.not_not, bz0, bz1, wi_nil, ld_0, ld_s, isIv_I, isLv_L, isRv_R, true_and, and_true, lset_0, lset_1, lset_s, avw_I, avw_L, avw_R, clr_cons, clr_nil, kst_0, kst_1, kstL_0, kstL_1, addk_I, pA_0, pA_s, pD_0, pD_s, wid_nil, wid_cons, rcv_c, putv_I, putv_L, List.length_cons, List.length_nil, List.set_cons_zero, List.set_cons_succ, not_false_eq_true, Nat.reduceMod, Nat.reduceDiv, Nat.reduceEqDiff, Nat.reduceLT, Nat.reduceLeDiff, Nat.reduceAdd, Nat.reduceSub, reduceIte, Nat.lt_irrefl, Nat.zero_ne_one, Nat.one_ne_zero, Nat.zero_add, List.nil_append, List.cons_append, Option.toList_some, Option.toList_none, forall_const, false_implies, true_implies, false_or, or_false, true_or, or_true, i_le, i_lt, i_eq, i_eq0, i_lt0, i_0le, i_0lt, i_le0, i_in1, i_cl, nI_add, pk_mul, pk_sub, i_div, i_rem, i_sh1, i_bit, i_or, i_and, i_andn, nt_le, nf_le, nt_lt, nf_lt, nt_eq, nf_eq, not_true_eq_false, and_self, and_false, false_and, eq_self, Bool.toNat_true, Bool.toNat_false, i_bool, i_bool1, Bool.false_eq_true, Bool.true_eq_false, reduceCtorEq, i_neg1, i_neg2, i_neg3, i_neg4, i_neg5, i_neg6, i_neg7, i_neg8, i_neg9, i_nega, i_negb, i_negc, i_max2, i_min2, wi_nil]
          repeat (
            first
            | refine s_X8_turns_0 ?_
            | refine s_X8_turns_6 ?_
            | refine s_X8_turns_45 ?_
            | refine s_X8_turns_54 ?_
            | refine s_X8_turns_55 ?_
            | refine s_X8_turns_66 ?_
            | refine s_X8_turns_70 ?_
            | refine s_X8_turns_97 ?_
            | refine s_X8_turns_98 ?_
            | refine s_X8_turns_101 ?_
            | refine s_X8_turns_116 ?_
            | refine s_X8_turns_131 ?_
            | refine s_X8_turns_138 ?_
            | refine s_X8_turns_140 ?_
            | refine s_X8_turns_146 ?_
            | refine s_X8_turns_168 ?_
            | refine s_X8_turns_169 ?_
            | refine s_X8_turns_172 ?_
            | refine s_X8_turns_175 ?_
            | refine s_X8_turns_177 ?_
            simp (disch := omega) only [B_X8_turns_0, wi_iload_n, wi_if_gt, wi_iconst, wi_ireturn, B_X8_turns_6, wi_bipush, wi_istore, B_X8_turns_13, wi_iload, wi_icmp_ge, wi_ishl, wi_iand, wi_if_eq, wi_if_ne, wi_aload_n, wi_iaload, wi_icmp_gt, B_X8_turns_45, wi_goto, B_X8_turns_54, B_X8_turns_55, B_X8_turns_66, B_X8_turns_70, wi_ixor, wi_isub, B_X8_turns_97, B_X8_turns_98, wi_invokestatic, B_X8_turns_101, wi_iadd, wi_icmp_ne, B_X8_turns_116, wi_min, B_X8_turns_131, wi_max, B_X8_turns_138, B_X8_turns_140, wi_iinc, B_X8_turns_146, B_X8_turns_168, B_X8_turns_169, B_X8_turns_172, B_X8_turns_175, B_X8_turns_177, no0, no1, nz1, nz2, nz3, nz4, nz5, nz7, nz8, Classical.not_not, bz0, bz1, wi_nil, ld_0, ld_s, isIv_I, isLv_L, isRv_R, true_and, and_true, lset_0, lset_1, lset_s, avw_I, avw_L, avw_R, clr_cons, clr_nil, kst_0, kst_1, kstL_0, kstL_1, addk_I, pA_0, pA_s, pD_0, pD_s, wid_nil, wid_cons, rcv_c, putv_I, putv_L, List.length_cons, List.length_nil, List.set_cons_zero, List.set_cons_succ, not_false_eq_true, Nat.reduceMod, Nat.reduceDiv, Nat.reduceEqDiff, Nat.reduceLT, Nat.reduceLeDiff, Nat.reduceAdd, Nat.reduceSub, reduceIte, Nat.lt_irrefl, Nat.zero_ne_one, Nat.one_ne_zero, Nat.zero_add, List.nil_append, List.cons_append, Option.toList_some, Option.toList_none, forall_const, false_implies, true_implies, false_or, or_false, true_or, or_true, i_le, i_lt, i_eq, i_eq0, i_lt0, i_0le, i_0lt, i_le0, i_in1, i_cl, nI_add, pk_mul, pk_sub, i_div, i_rem, i_sh1, i_bit, i_or, i_and, i_andn, nt_le, nf_le, nt_lt, nf_lt, nt_eq, nf_eq, not_true_eq_false, and_self, and_false, false_and, eq_self, Bool.toNat_true, Bool.toNat_false, i_bool, i_bool1, Bool.false_eq_true, Bool.true_eq_false, reduceCtorEq, i_neg1, i_neg2, i_neg3, i_neg4, i_neg5, i_neg6, i_neg7, i_neg8, i_neg9, i_nega, i_negb, i_negc, i_max2, i_min2])
          exact hnx
      · rw [Bool.true_or, if_pos rfl, show ((w : Int) - (if true = true then 0 else (ycz Y i : Int))) = (w : Int) by rw [if_pos rfl]; omega] at hnx
        have hT := TT_le (c := ycz Y) k (L &&& (31 - 2 ^ i)) (w : Int) (!true)
        have r := rec (L &&& (31 - 2 ^ i)) w
        refine s_X8_turns_13 ?_
        simp (disch := omega) only [B_X8_turns_13, wi_iload, wi_iconst, wi_icmp_ge, wi_ishl, wi_istore, wi_iload_n, wi_iand, wi_if_eq, wi_if_ne, wi_aload_n, wi_iaload, wi_icmp_gt, cnt_26, aTy_26, aLn_26, arr_26, no0, no1, nz1, nz2, nz3, nz4, nz5, nz7, nz8, Classical.not_not, bz0, bz1, wi_nil, ld_0, ld_s, isIv_I, isLv_L, isRv_R, true_and, and_true, lset_0, lset_1, lset_s, avw_I, avw_L, avw_R, clr_cons, clr_nil, kst_0, kst_1, kstL_0, kstL_1, addk_I, pA_0, pA_s, pD_0, pD_s, wid_nil, wid_cons, rcv_c, putv_I, putv_L, List.length_cons, List.length_nil, List.set_cons_zero, List.set_cons_succ, not_false_eq_true, Nat.reduceMod, Nat.reduceDiv, Nat.reduceEqDiff, Nat.reduceLT, Nat.reduceLeDiff, Nat.reduceAdd, Nat.reduceSub, reduceIte, Nat.lt_irrefl, Nat.zero_ne_one, Nat.one_ne_zero, Nat.zero_add, List.nil_append, List.cons_append, Option.toList_some, Option.toList_none, forall_const, false_implies, true_implies, false_or, or_false, true_or, or_true, i_le, i_lt, i_eq, i_eq0, i_lt0, i_0le, i_0lt, i_le0, i_in1, i_cl, nI_add, pk_mul, pk_sub, i_div, i_rem, i_sh1, i_bit, i_or, i_and, i_andn, nt_le, nf_le, nt_lt, nf_lt, nt_eq, nf_eq, not_true_eq_false, and_self, and_false, false_and, eq_self, Bool.toNat_true, Bool.toNat_false, i_bool, i_bool1, Bool.false_eq_true, Bool.true_eq_false, reduceCtorEq, i_neg1, i_neg2, i_neg3, i_neg4, i_neg5, i_neg6, i_neg7, i_neg8, i_neg9, i_nega, i_negb, i_negc, i_max2, i_min2, hbit, hb, hsb]
        try simp (disch := omega) only [no0, no1, nz1, nz2, nz3, nz4, nz5, nz7, nz8, Classical.not_not, bz0, bz1, wi_nil, ld_0, ld_s, isIv_I, isLv_L, isRv_R, true_and, and_true, lset_0, lset_1, lset_s, avw_I, avw_L, avw_R, clr_cons, clr_nil, kst_0, kst_1, kstL_0, kstL_1, addk_I, pA_0, pA_s, pD_0, pD_s, wid_nil, wid_cons, rcv_c, putv_I, putv_L, List.length_cons, List.length_nil, List.set_cons_zero, List.set_cons_succ, not_false_eq_true, Nat.reduceMod, Nat.reduceDiv, Nat.reduceEqDiff, Nat.reduceLT, Nat.reduceLeDiff, Nat.reduceAdd, Nat.reduceSub, reduceIte, Nat.lt_irrefl, Nat.zero_ne_one, Nat.one_ne_zero, Nat.zero_add, List.nil_append, List.cons_append, Option.toList_some, Option.toList_none, forall_const, false_implies, true_implies, false_or, or_false, true_or, or_true, i_le, i_lt, i_eq, i_eq0, i_lt0, i_0le, i_0lt, i_le0, i_in1, i_cl, nI_add, pk_mul, pk_sub, i_div, i_rem, i_sh1, i_bit, i_or, i_and, i_andn, nt_le, nf_le, nt_lt, nf_lt, nt_eq, nf_eq, not_true_eq_false, and_self, and_false, false_and, eq_self, Bool.toNat_true, Bool.toNat_false, i_bool, i_bool1, Bool.false_eq_true, Bool.true_eq_false, reduceCtorEq, i_neg1, i_neg2, i_neg3, i_neg4, i_neg5, i_neg6, i_neg7, i_neg8, i_neg9, i_nega, i_negb, i_negc, i_max2, i_min2, hsb, Nat.sub_zero, wi_nil]
        repeat (
          first
          | refine s_X8_turns_0 ?_
          | refine s_X8_turns_6 ?_
          | refine s_X8_turns_45 ?_
          | refine s_X8_turns_54 ?_
          | refine s_X8_turns_55 ?_
          | refine s_X8_turns_66 ?_
          | refine s_X8_turns_70 ?_
          | refine s_X8_turns_97 ?_
          | refine s_X8_turns_98 ?_
          | refine s_X8_turns_101 ?_
          | refine s_X8_turns_116 ?_
          | refine s_X8_turns_131 ?_
          | refine s_X8_turns_138 ?_
          | refine s_X8_turns_140 ?_
          | refine s_X8_turns_146 ?_
          | refine s_X8_turns_168 ?_
          | refine s_X8_turns_169 ?_
          | refine s_X8_turns_172 ?_
          | refine s_X8_turns_175 ?_
          | refine s_X8_turns_177 ?_
          simp (disch := omega) only [B_X8_turns_0, wi_iload_n, wi_if_gt, wi_iconst, wi_ireturn, B_X8_turns_6, wi_bipush, wi_istore, B_X8_turns_13, wi_iload, wi_icmp_ge, wi_ishl, wi_iand, wi_if_eq, wi_if_ne, wi_aload_n, wi_iaload, wi_icmp_gt, cnt_26, aTy_26, aLn_26, arr_26, B_X8_turns_45, wi_goto, B_X8_turns_54, B_X8_turns_55, B_X8_turns_66, B_X8_turns_70, wi_ixor, wi_isub, B_X8_turns_97, B_X8_turns_98, wi_invokestatic, B_X8_turns_101, wi_iadd, wi_icmp_ne, B_X8_turns_116, wi_min, B_X8_turns_131, wi_max, B_X8_turns_138, B_X8_turns_140, wi_iinc, B_X8_turns_146, B_X8_turns_168, B_X8_turns_169, B_X8_turns_172, B_X8_turns_175, B_X8_turns_177, no0, no1, nz1, nz2, nz3, nz4, nz5, nz7, nz8, Classical.not_not, bz0, bz1, wi_nil, ld_0, ld_s, isIv_I, isLv_L, isRv_R, true_and, and_true, lset_0, lset_1, lset_s, avw_I, avw_L, avw_R, clr_cons, clr_nil, kst_0, kst_1, kstL_0, kstL_1, addk_I, pA_0, pA_s, pD_0, pD_s, wid_nil, wid_cons, rcv_c, putv_I, putv_L, List.length_cons, List.length_nil, List.set_cons_zero, List.set_cons_succ, not_false_eq_true, Nat.reduceMod, Nat.reduceDiv, Nat.reduceEqDiff, Nat.reduceLT, Nat.reduceLeDiff, Nat.reduceAdd, Nat.reduceSub, reduceIte, Nat.lt_irrefl, Nat.zero_ne_one, Nat.one_ne_zero, Nat.zero_add, List.nil_append, List.cons_append, Option.toList_some, Option.toList_none, forall_const, false_implies, true_implies, false_or, or_false, true_or, or_true, i_le, i_lt, i_eq, i_eq0, i_lt0, i_0le, i_0lt, i_le0, i_in1, i_cl, nI_add, pk_mul, pk_sub, i_div, i_rem, i_sh1, i_bit, i_or, i_and, i_andn, nt_le, nf_le, nt_lt, nf_lt, nt_eq, nf_eq, not_true_eq_false, and_self, and_false, false_and, eq_self, Bool.toNat_true, Bool.toNat_false, i_bool, i_bool1, Bool.false_eq_true, Bool.true_eq_false, reduceCtorEq, i_neg1, i_neg2, i_neg3, i_neg4, i_neg5, i_neg6, i_neg7, i_neg8, i_neg9, i_nega, i_negb, i_negc, i_max2, i_min2, hsb, Nat.sub_zero])
        refine r _ hrm (by omega) ?_
        rw [if_pos rfl, Nat.zero_add] at hnx
        cases hGc : G with
        | none =>
          rw [hGc] at hnx
          try simp (disch := omega) only [no0, no1, nz1, nz2, nz3, nz4, nz5, nz7, nz8, Classical.not_not, bz0, bz1, wi_nil, ld_0, ld_s, isIv_I, isLv_L, isRv_R, true_and, and_true, lset_0, lset_1, lset_s, avw_I, avw_L, avw_R, clr_cons, clr_nil, kst_0, kst_1, kstL_0, kstL_1, addk_I, pA_0, pA_s, pD_0, pD_s, wid_nil, wid_cons, rcv_c, putv_I, putv_L, List.length_cons, List.length_nil, List.set_cons_zero, List.set_cons_succ, not_false_eq_true, Nat.reduceMod, Nat.reduceDiv, Nat.reduceEqDiff, Nat.reduceLT, Nat.reduceLeDiff, Nat.reduceAdd, Nat.reduceSub, reduceIte, Nat.lt_irrefl, Nat.zero_ne_one, Nat.one_ne_zero, Nat.zero_add, List.nil_append, List.cons_append, Option.toList_some, Option.toList_none, forall_const, false_implies, true_implies, false_or, or_false, true_or, or_true, i_le, i_lt, i_eq, i_eq0, i_lt0, i_0le, i_0lt, i_le0, i_in1, i_cl, nI_add, pk_mul, pk_sub, i_div, i_rem, i_sh1, i_bit, i_or, i_and, i_andn, nt_le, nf_le, nt_lt, nf_lt, nt_eq, nf_eq, not_true_eq_false, and_self, and_false, false_and, eq_self, Bool.toNat_true, Bool.toNat_false, i_bool, i_bool1, Bool.false_eq_true, Bool.true_eq_false, reduceCtorEq, i_neg1, i_neg2, i_neg3, i_neg4, i_neg5, i_neg6, i_neg7, i_neg8, i_neg9, i_nega, i_negb, i_negc, i_max2, i_min2, wrI, wi_nil]
          repeat (
            first
            | refine s_X8_turns_0 ?_
            | refine s_X8_turns_6 ?_
            | refine s_X8_turns_45 ?_
            | refine s_X8_turns_54 ?_
            | refine s_X8_turns_55 ?_
            | refine s_X8_turns_66 ?_
            | refine s_X8_turns_70 ?_
            | refine s_X8_turns_97 ?_
            | refine s_X8_turns_98 ?_
            | refine s_X8_turns_101 ?_
            | refine s_X8_turns_116 ?_
            | refine s_X8_turns_131 ?_
            | refine s_X8_turns_138 ?_
            | refine s_X8_turns_140 ?_
            | refine s_X8_turns_146 ?_
            | refine s_X8_turns_168 ?_
            | refine s_X8_turns_169 ?_
            | refine s_X8_turns_172 ?_
            | refine s_X8_turns_175 ?_
            | refine s_X8_turns_177 ?_
            simp (disch := omega) only [B_X8_turns_0, wi_iload_n, wi_if_gt, wi_iconst, wi_ireturn, B_X8_turns_6, wi_bipush, wi_istore, B_X8_turns_13, wi_iload, wi_icmp_ge, wi_ishl, wi_iand, wi_if_eq, wi_if_ne, wi_aload_n, wi_iaload, wi_icmp_gt, B_X8_turns_45, wi_goto, B_X8_turns_54, B_X8_turns_55, B_X8_turns_66, B_X8_turns_70, wi_ixor, wi_isub, B_X8_turns_97, B_X8_turns_98, wi_invokestatic, B_X8_turns_101, wi_iadd, wi_icmp_ne, B_X8_turns_116, wi_min, B_X8_turns_131, wi_max, B_X8_turns_138, B_X8_turns_140, wi_iinc, B_X8_turns_146, B_X8_turns_168, B_X8_turns_169, B_X8_turns_172, B_X8_turns_175, B_X8_turns_177, no0, no1, nz1, nz2, nz3, nz4, nz5, nz7, nz8, Classical.not_not, bz0, bz1, wi_nil, ld_0, ld_s, isIv_I, isLv_L, isRv_R, true_and, and_true, lset_0, lset_1, lset_s, avw_I, avw_L, avw_R, clr_cons, clr_nil, kst_0, kst_1, kstL_0, kstL_1, addk_I, pA_0, pA_s, pD_0, pD_s, wid_nil, wid_cons, rcv_c, putv_I, putv_L, List.length_cons, List.length_nil, List.set_cons_zero, List.set_cons_succ, not_false_eq_true, Nat.reduceMod, Nat.reduceDiv, Nat.reduceEqDiff, Nat.reduceLT, Nat.reduceLeDiff, Nat.reduceAdd, Nat.reduceSub, reduceIte, Nat.lt_irrefl, Nat.zero_ne_one, Nat.one_ne_zero, Nat.zero_add, List.nil_append, List.cons_append, Option.toList_some, Option.toList_none, forall_const, false_implies, true_implies, false_or, or_false, true_or, or_true, i_le, i_lt, i_eq, i_eq0, i_lt0, i_0le, i_0lt, i_le0, i_in1, i_cl, nI_add, pk_mul, pk_sub, i_div, i_rem, i_sh1, i_bit, i_or, i_and, i_andn, nt_le, nf_le, nt_lt, nf_lt, nt_eq, nf_eq, not_true_eq_false, and_self, and_false, false_and, eq_self, Bool.toNat_true, Bool.toNat_false, i_bool, i_bool1, Bool.false_eq_true, Bool.true_eq_false, reduceCtorEq, i_neg1, i_neg2, i_neg3, i_neg4, i_neg5, i_neg6, i_neg7, i_neg8, i_neg9, i_nega, i_negb, i_negc, i_max2, i_min2, wrI])
          exact hnx
        | some b =>
          have hb9 := hGle b hGc
          rw [hGc] at hnx
          try dsimp only at hnx
          rw [if_pos rfl] at hnx
          try simp (disch := omega) only [no0, no1, nz1, nz2, nz3, nz4, nz5, nz7, nz8, Classical.not_not, bz0, bz1, wi_nil, ld_0, ld_s, isIv_I, isLv_L, isRv_R, true_and, and_true, lset_0, lset_1, lset_s, avw_I, avw_L, avw_R, clr_cons, clr_nil, kst_0, kst_1, kstL_0, kstL_1, addk_I, pA_0, pA_s, pD_0, pD_s, wid_nil, wid_cons, rcv_c, putv_I, putv_L, List.length_cons, List.length_nil, List.set_cons_zero, List.set_cons_succ, not_false_eq_true, Nat.reduceMod, Nat.reduceDiv, Nat.reduceEqDiff, Nat.reduceLT, Nat.reduceLeDiff, Nat.reduceAdd, Nat.reduceSub, reduceIte, Nat.lt_irrefl, Nat.zero_ne_one, Nat.one_ne_zero, Nat.zero_add, List.nil_append, List.cons_append, Option.toList_some, Option.toList_none, forall_const, false_implies, true_implies, false_or, or_false, true_or, or_true, i_le, i_lt, i_eq, i_eq0, i_lt0, i_0le, i_0lt, i_le0, i_in1, i_cl, nI_add, pk_mul, pk_sub, i_div, i_rem, i_sh1, i_bit, i_or, i_and, i_andn, nt_le, nf_le, nt_lt, nf_lt, nt_eq, nf_eq, not_true_eq_false, and_self, and_false, false_and, eq_self, Bool.toNat_true, Bool.toNat_false, i_bool, i_bool1, Bool.false_eq_true, Bool.true_eq_false, reduceCtorEq, i_neg1, i_neg2, i_neg3, i_neg4, i_neg5, i_neg6, i_neg7, i_neg8, i_neg9, i_nega, i_negb, i_negc, i_max2, i_min2, wrI, wi_nil]
          repeat (
            first
            | refine s_X8_turns_0 ?_
            | refine s_X8_turns_6 ?_
            | refine s_X8_turns_45 ?_
            | refine s_X8_turns_54 ?_
            | refine s_X8_turns_55 ?_
            | refine s_X8_turns_66 ?_
            | refine s_X8_turns_70 ?_
            | refine s_X8_turns_97 ?_
            | refine s_X8_turns_98 ?_
            | refine s_X8_turns_101 ?_
            | refine s_X8_turns_116 ?_
            | refine s_X8_turns_131 ?_
            | refine s_X8_turns_138 ?_
            | refine s_X8_turns_140 ?_
            | refine s_X8_turns_146 ?_
            | refine s_X8_turns_168 ?_
            | refine s_X8_turns_169 ?_
            | refine s_X8_turns_172 ?_
            | refine s_X8_turns_175 ?_
            | refine s_X8_turns_177 ?_
            simp (disch := omega) only [B_X8_turns_0, wi_iload_n, wi_if_gt, wi_iconst, wi_ireturn, B_X8_turns_6, wi_bipush, wi_istore, B_X8_turns_13, wi_iload, wi_icmp_ge, wi_ishl, wi_iand, wi_if_eq, wi_if_ne, wi_aload_n, wi_iaload, wi_icmp_gt, B_X8_turns_45, wi_goto, B_X8_turns_54, B_X8_turns_55, B_X8_turns_66, B_X8_turns_70, wi_ixor, wi_isub, B_X8_turns_97, B_X8_turns_98, wi_invokestatic, B_X8_turns_101, wi_iadd, wi_icmp_ne, B_X8_turns_116, wi_min, B_X8_turns_131, wi_max, B_X8_turns_138, B_X8_turns_140, wi_iinc, B_X8_turns_146, B_X8_turns_168, B_X8_turns_169, B_X8_turns_172, B_X8_turns_175, B_X8_turns_177, no0, no1, nz1, nz2, nz3, nz4, nz5, nz7, nz8, Classical.not_not, bz0, bz1, wi_nil, ld_0, ld_s, isIv_I, isLv_L, isRv_R, true_and, and_true, lset_0, lset_1, lset_s, avw_I, avw_L, avw_R, clr_cons, clr_nil, kst_0, kst_1, kstL_0, kstL_1, addk_I, pA_0, pA_s, pD_0, pD_s, wid_nil, wid_cons, rcv_c, putv_I, putv_L, List.length_cons, List.length_nil, List.set_cons_zero, List.set_cons_succ, not_false_eq_true, Nat.reduceMod, Nat.reduceDiv, Nat.reduceEqDiff, Nat.reduceLT, Nat.reduceLeDiff, Nat.reduceAdd, Nat.reduceSub, reduceIte, Nat.lt_irrefl, Nat.zero_ne_one, Nat.one_ne_zero, Nat.zero_add, List.nil_append, List.cons_append, Option.toList_some, Option.toList_none, forall_const, false_implies, true_implies, false_or, or_false, true_or, or_true, i_le, i_lt, i_eq, i_eq0, i_lt0, i_0le, i_0lt, i_le0, i_in1, i_cl, nI_add, pk_mul, pk_sub, i_div, i_rem, i_sh1, i_bit, i_or, i_and, i_andn, nt_le, nf_le, nt_lt, nf_lt, nt_eq, nf_eq, not_true_eq_false, and_self, and_false, false_and, eq_self, Bool.toNat_true, Bool.toNat_false, i_bool, i_bool1, Bool.false_eq_true, Bool.true_eq_false, reduceCtorEq, i_neg1, i_neg2, i_neg3, i_neg4, i_neg5, i_neg6, i_neg7, i_neg8, i_neg9, i_nega, i_negb, i_negc, i_max2, i_min2, wrI])
          exact hnx
theorem c_turns {B : Nat} (ho : YOk B Y) (hs : ∀ s, s < 32 → gA S 26 1 s = nI (csum (ycz Y) 5 s)) : ∀ (k : Nat) (d L w : Nat) (t : Bool) (P : Option AV → MS → Prop), k ≤ 5 → k ≤ d → L < 32 → w ≤ 40 → P (some (aI (nI (TT (ycz Y) k L (w : Int) t)))) S → wpM (d + 1) mX8_turns [aR 26 1, aI (nI L), aI (nI w), aI (nI k), aI (nI t.toNat)] S P := by
  intro k
  induction k with
  | zero =>
    intro d L w t P hk hd hL hw q
    refine x_entry (ls2 := [aR 26 1, aI (nI L), aI (nI w), aI (nI 0), aI (nI t.toNat), aU, aU, aU, aU, aU, aU]) (Nat.le_of_ble_eq_true rfl) pl_8 rfl (Nat.le_of_ble_eq_true rfl) ?_
    try simp (disch := omega) only [no0, no1, nz1, nz2, nz3, nz4, nz5, nz7, nz8, Classical.not_not, bz0, bz1, wi_nil, ld_0, ld_s, isIv_I, isLv_L, isRv_R, true_and, and_true, lset_0, lset_1, lset_s, avw_I, avw_L, avw_R, clr_cons, clr_nil, kst_0, kst_1, kstL_0, kstL_1, addk_I, pA_0, pA_s, pD_0, pD_s, wid_nil, wid_cons, rcv_c, putv_I, putv_L, List.length_cons, List.length_nil, List.set_cons_zero, List.set_cons_succ, not_false_eq_true, Nat.reduceMod, Nat.reduceDiv, Nat.reduceEqDiff, Nat.reduceLT, Nat.reduceLeDiff, Nat.reduceAdd, Nat.reduceSub, reduceIte, Nat.lt_irrefl, Nat.zero_ne_one, Nat.one_ne_zero, Nat.zero_add, List.nil_append, List.cons_append, Option.toList_some, Option.toList_none, forall_const, false_implies, true_implies, false_or, or_false, true_or, or_true, i_le, i_lt, i_eq, i_eq0, i_lt0, i_0le, i_0lt, i_le0, i_in1, i_cl, nI_add, pk_mul, pk_sub, i_div, i_rem, i_sh1, i_bit, i_or, i_and, i_andn, nt_le, nf_le, nt_lt, nf_lt, nt_eq, nf_eq, not_true_eq_false, and_self, and_false, false_and, eq_self, Bool.toNat_true, Bool.toNat_false, i_bool, i_bool1, Bool.false_eq_true, Bool.true_eq_false, reduceCtorEq, i_neg1, i_neg2, i_neg3, i_neg4, i_neg5, i_neg6, i_neg7, i_neg8, i_neg9, i_nega, i_negb, i_negc, i_max2, i_min2, wi_nil]
    repeat (
      first
      | refine s_X8_turns_0 ?_
      | refine s_X8_turns_6 ?_
      | refine s_X8_turns_45 ?_
      | refine s_X8_turns_54 ?_
      | refine s_X8_turns_55 ?_
      | refine s_X8_turns_66 ?_
      | refine s_X8_turns_70 ?_
      | refine s_X8_turns_97 ?_
      | refine s_X8_turns_98 ?_
      | refine s_X8_turns_101 ?_
      | refine s_X8_turns_116 ?_
      | refine s_X8_turns_131 ?_
      | refine s_X8_turns_138 ?_
      | refine s_X8_turns_140 ?_
      | refine s_X8_turns_146 ?_
      | refine s_X8_turns_168 ?_
      | refine s_X8_turns_169 ?_
      | refine s_X8_turns_172 ?_
      | refine s_X8_turns_175 ?_
      | refine s_X8_turns_177 ?_
      simp (disch := omega) only [B_X8_turns_0, wi_iload_n, wi_if_gt, wi_iconst, wi_ireturn, B_X8_turns_6, wi_bipush, wi_istore, B_X8_turns_13, wi_iload, wi_icmp_ge, wi_ishl, wi_iand, wi_if_eq, wi_if_ne, wi_aload_n, wi_iaload, wi_icmp_gt, B_X8_turns_45, wi_goto, B_X8_turns_54, B_X8_turns_55, B_X8_turns_66, B_X8_turns_70, wi_ixor, wi_isub, B_X8_turns_97, B_X8_turns_98, wi_invokestatic, B_X8_turns_101, wi_iadd, wi_icmp_ne, B_X8_turns_116, wi_min, B_X8_turns_131, wi_max, B_X8_turns_138, B_X8_turns_140, wi_iinc, B_X8_turns_146, B_X8_turns_168, B_X8_turns_169, B_X8_turns_172, B_X8_turns_175, B_X8_turns_177, no0, no1, nz1, nz2, nz3, nz4, nz5, nz7, nz8, Classical.not_not, bz0, bz1, wi_nil, ld_0, ld_s, isIv_I, isLv_L, isRv_R, true_and, and_true, lset_0, lset_1, lset_s, avw_I, avw_L, avw_R, clr_cons, clr_nil, kst_0, kst_1, kstL_0, kstL_1, addk_I, pA_0, pA_s, pD_0, pD_s, wid_nil, wid_cons, rcv_c, putv_I, putv_L, List.length_cons, List.length_nil, List.set_cons_zero, List.set_cons_succ, not_false_eq_true, Nat.reduceMod, Nat.reduceDiv, Nat.reduceEqDiff, Nat.reduceLT, Nat.reduceLeDiff, Nat.reduceAdd, Nat.reduceSub, reduceIte, Nat.lt_irrefl, Nat.zero_ne_one, Nat.one_ne_zero, Nat.zero_add, List.nil_append, List.cons_append, Option.toList_some, Option.toList_none, forall_const, false_implies, true_implies, false_or, or_false, true_or, or_true, i_le, i_lt, i_eq, i_eq0, i_lt0, i_0le, i_0lt, i_le0, i_in1, i_cl, nI_add, pk_mul, pk_sub, i_div, i_rem, i_sh1, i_bit, i_or, i_and, i_andn, nt_le, nf_le, nt_lt, nf_lt, nt_eq, nf_eq, not_true_eq_false, and_self, and_false, false_and, eq_self, Bool.toNat_true, Bool.toNat_false, i_bool, i_bool1, Bool.false_eq_true, Bool.true_eq_false, reduceCtorEq, i_neg1, i_neg2, i_neg3, i_neg4, i_neg5, i_neg6, i_neg7, i_neg8, i_neg9, i_nega, i_negb, i_negc, i_max2, i_min2])
    exact q
  | succ k ih =>
    intro d L w t P hk hd hL hw q
    obtain ⟨d, rfl⟩ : ∃ e, d = e + 1 := ⟨d - 1, by omega⟩
    refine x_entry (ls2 := [aR 26 1, aI (nI L), aI (nI w), aI (nI (k + 1)), aI (nI t.toNat), aU, aU, aU, aU, aU, aU]) (Nat.le_of_ble_eq_true rfl) pl_8 rfl (Nat.le_of_ble_eq_true rfl) ?_
    refine s_X8_turns_0 ?_
    simp only [B_X8_turns_0, wi_iload_n, wi_if_gt, wi_iconst, wi_ireturn, no0, no1, nz1, nz2, nz3, nz4, nz5, nz7, nz8, Classical.not_not, bz0, bz1, wi_nil, ld_0, ld_s, isIv_I, isLv_L, isRv_R, true_and, and_true, lset_0, lset_1, lset_s, avw_I, avw_L, avw_R, clr_cons, clr_nil, kst_0, kst_1, kstL_0, kstL_1, addk_I, pA_0, pA_s, pD_0, pD_s, wid_nil, wid_cons, rcv_c, putv_I, putv_L, List.length_cons, List.length_nil, List.set_cons_zero, List.set_cons_succ, not_false_eq_true, Nat.reduceMod, Nat.reduceDiv, Nat.reduceEqDiff, Nat.reduceLT, Nat.reduceLeDiff, Nat.reduceAdd, Nat.reduceSub, reduceIte, Nat.lt_irrefl, Nat.zero_ne_one, Nat.one_ne_zero, Nat.zero_add, List.nil_append, List.cons_append, Option.toList_some, Option.toList_none, forall_const, false_implies, true_implies, false_or, or_false, true_or, or_true]
    rw [i_0lt (by omega)]
    refine ⟨fun _ => ?_, fun h => absurd (Nat.succ_pos k) h⟩
    refine s_X8_turns_6 ?_
    simp only [B_X8_turns_6, wi_bipush, wi_istore, wi_iconst, no0, no1, nz1, nz2, nz3, nz4, nz5, nz7, nz8, Classical.not_not, bz0, bz1, wi_nil, ld_0, ld_s, isIv_I, isLv_L, isRv_R, true_and, and_true, lset_0, lset_1, lset_s, avw_I, avw_L, avw_R, clr_cons, clr_nil, kst_0, kst_1, kstL_0, kstL_1, addk_I, pA_0, pA_s, pD_0, pD_s, wid_nil, wid_cons, rcv_c, putv_I, putv_L, List.length_cons, List.length_nil, List.set_cons_zero, List.set_cons_succ, not_false_eq_true, Nat.reduceMod, Nat.reduceDiv, Nat.reduceEqDiff, Nat.reduceLT, Nat.reduceLeDiff, Nat.reduceAdd, Nat.reduceSub, reduceIte, Nat.lt_irrefl, Nat.zero_ne_one, Nat.one_ne_zero, Nat.zero_add, List.nil_append, List.cons_append, Option.toList_some, Option.toList_none, forall_const, false_implies, true_implies, false_or, or_false, true_or, or_true]
    exact l_turns hk hL hw ho hs (fun L w P hL hw q => ih d L w (!t) P (by omega) (by omega) hL hw q) q 5 0 rfl
end
