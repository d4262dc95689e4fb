-- PART 57: count
theorem swt_out {pc t : Nat} {d lo hi : Int} {offs : Array Int} {x : Int32} (h : x.toInt < lo ∨ hi < x.toInt) (e : ((pc : Int) + d).toNat = t) : swt pc d lo hi offs x = t := by
  unfold swt
  rw [if_pos h]
  exact e
def ctV (Y : Nat → Nat → Nat) (L : Nat) (rs ts ks : Nat → Nat) (w : Nat) : Nat := if w = 0 then Y 6 0 else if w = 1 then Y 6 1 else if w = 2 then L else if w = 3 then Y 6 2 else if w = 4 then Y 6 3 else if w = 5 then yop Y else if w = 6 then yhab Y else if w = 7 then yruns Y else if w = 8 then tct rs 6 else if w = 9 then tct ts 4 else tct ks 3
def hbF (Y : Nat → Nat → Nat) (w i : Nat) : Nat := (if w = 6 then (if (Y 6 4).testBit i then 0 else Y 2 i) else 0) + (if w = 7 then (isk (Y 0 i) 1).toNat else 0)
def ifw (w v : Nat) (rs : Nat → Nat) (r : Nat) : Nat := if w = v then (if rs r = 0 then 0 else 1) else 0
theorem isk1 {a : Nat} (h : a < 6) : isk a 1 = decide (a = 1 ∨ a = 4) := fin1 (p := fun a => isk a 1 = decide (a = 1 ∨ a = 4)) (n := 6) (by decide +kernel) h
theorem sm_z {f : Nat → Nat} : ∀ {n : Nat}, (∀ k, k < n → f k = 0) → fb_sm f n = 0 := by
  intro n
  induction n with
  | zero => intro _; rfl
  | succ n ih =>
    intro h
    rw [fb_sm_succ, ih (fun k hk => h k (by omega)), h n (by omega)]
theorem ifw_no {w v : Nat} {rs : Nat → Nat} {n : Nat} (h : ¬ w = v) : fb_sm (ifw w v rs) n = 0 := sm_z (fun k _ => if_neg h)
theorem ifw_yes {v : Nat} {rs : Nat → Nat} {n : Nat} : fb_sm (ifw v v rs) n = tct rs n := fb_sm_cong (fun k _ => if_pos rfl)
theorem ifw_le {w v : Nat} {rs : Nat → Nat} {n : Nat} : fb_sm (ifw w v rs) n ≤ n * 1 := fb_sm_bound (fun k _ => by
  unfold ifw
  split
  · split <;> omega
  · omega)
section
variable {d B : Nat} {S : MS} {Y Y0 : Nat → Nat → Nat} {P : Option AV → MS → Prop} {rs ts ks : Nat → Nat} {rc tc kc : Nat → Nat → Int32}
theorem hbF_le (ho : YOk B Y) {w : Nat} : ∀ i, i < Y 6 0 → hbF Y w i ≤ 9 := by
  intro i hi
  have := ho.2 i hi
  have hb : (isk (Y 0 i) 1).toNat ≤ 1 := by cases isk (Y 0 i) 1 <;> decide
  unfold hbF
  by_cases h6 : w = 6
  · rw [if_pos h6, if_neg (show ¬ w = 7 by omega)]
    split <;> omega
  · rw [if_neg h6]
    split <;> omega
theorem hbF_6 : fb_sm (hbF Y 6) (Y 6 0) = yhab Y := fb_sm_cong (fun k _ => by unfold hbF; rw [if_pos rfl, if_neg (show ¬ (6 : Nat) = 7 by decide), Nat.add_zero])
theorem hbF_7 : fb_sm (hbF Y 7) (Y 6 0) = yruns Y := fb_sm_cong (fun k _ => by unfold hbF; rw [if_neg (show ¬ (7 : Nat) = 6 by decide), if_pos rfl, Nat.zero_add])
theorem hbF_no {w : Nat} (h6 : ¬ w = 6) (h7 : ¬ w = 7) : fb_sm (hbF Y w) (Y 6 0) = 0 := sm_z (fun k _ => by unfold hbF; rw [if_neg h6, if_neg h7])
theorem c_count {L w : Nat} (hw : w < 11) (hy : YrX S 1 Y) (ho : YOk 40 Y) (hL : gI S 0 0 3 = nI L) (h1 : Tb S 15 16 6 40 rs rc) (h2 : Tb S 17 18 4 60 ts tc) (h3 : Tb S 12 11 3 40 ks kc) (q : P (some (aI (nI (ctV Y L rs ts ks w)))) S) : wpM (d + 3) mX8_count [aR 7 0, aI (nI w)] S P := by
  refine x_entry (ls2 := [aR 7 0, aI (nI w)]) (Nat.le_of_ble_eq_true rfl) pl_8 rfl (Nat.le_of_ble_eq_true rfl) ?_
  refine s_X8_count_0 ?_
  simp (disch := omega) only [B_X8_count_0, wi_iload_n, wi_tsw, no0, no1, nz1, nz2, nz3, nz4, nz5, nz7, nz8, Classical.not_not, bz0, bz1, wi_nil, ld_0, ld_s, isIv_I, isLv_L, isRv_R, true_and, and_true, lset_0, lset_1, lset_s, avw_I, avw_L, avw_R, clr_cons, clr_nil, kst_0, kst_1, kstL_0, kstL_1, addk_I, pA_0, pA_s, pD_0, pD_s, wid_nil, wid_cons, rcv_c, putv_I, putv_L, List.length_cons, List.length_nil, List.set_cons_zero, List.set_cons_succ, not_false_eq_true, Nat.reduceMod, Nat.reduceDiv, Nat.reduceEqDiff, Nat.reduceLT, Nat.reduceLeDiff, Nat.reduceAdd, Nat.reduceSub, reduceIte, Nat.lt_irrefl, Nat.zero_ne_one, Nat.one_ne_zero, Nat.zero_add, List.nil_append, List.cons_append, Option.toList_some, Option.toList_none, forall_const, false_implies, true_implies, false_or, or_false, true_or, or_true, i_le, i_lt, i_eq, i_eq0, i_lt0, i_0le, i_0lt, i_le0, i_in1, i_cl, nI_add, pk_mul, pk_sub, i_div, i_rem, i_sh1, i_bit, i_or, i_and, i_andn, nt_le, nf_le, nt_lt, nf_lt, nt_eq, nf_eq, not_true_eq_false, and_self, and_false, false_and, eq_self, Bool.toNat_true, Bool.toNat_false, i_bool, i_bool1, Bool.false_eq_true, Bool.true_eq_false, reduceCtorEq, i_neg1, i_neg2, i_neg3, i_neg4, i_neg5, i_neg6, i_neg7, i_neg8, i_neg9, i_nega, i_negb, i_negc, i_max2, i_min2]
  rcases (show w = 0 ∨ w = 1 ∨ w = 2 ∨ w = 3 ∨ w = 4 ∨ w = 5 ∨ w = 6 ∨ w = 7 ∨ w = 8 ∨ w = 9 ∨ w = 10 by omega) with rfl | rfl | rfl | rfl | rfl | rfl | rfl | rfl | rfl | rfl | rfl
  · rw [show swt 1 147 0 10 #[59, 67, 75, 83, 91, 99, 107, 115, 123, 131, 139] (nI 0) = 60 from by decide +kernel]
    try simp (disch := omega) only [no0, no1, nz1, nz2, nz3, nz4, nz5, nz7, nz8, Classical.not_not, bz0, bz1, wi_nil, ld_0, ld_s, isIv_I, isLv_L, isRv_R, true_and, and_true, lset_0, lset_1, lset_s, avw_I, avw_L, avw_R, clr_cons, clr_nil, kst_0, kst_1, kstL_0, kstL_1, addk_I, pA_0, pA_s, pD_0, pD_s, wid_nil, wid_cons, rcv_c, putv_I, putv_L, List.length_cons, List.length_nil, List.set_cons_zero, List.set_cons_succ, not_false_eq_true, Nat.reduceMod, Nat.reduceDiv, Nat.reduceEqDiff, Nat.reduceLT, Nat.reduceLeDiff, Nat.reduceAdd, Nat.reduceSub, reduceIte, Nat.lt_irrefl, Nat.zero_ne_one, Nat.one_ne_zero, Nat.zero_add, List.nil_append, List.cons_append, Option.toList_some, Option.toList_none, forall_const, false_implies, true_implies, false_or, or_false, true_or, or_true, i_le, i_lt, i_eq, i_eq0, i_lt0, i_0le, i_0lt, i_le0, i_in1, i_cl, nI_add, pk_mul, pk_sub, i_div, i_rem, i_sh1, i_bit, i_or, i_and, i_andn, nt_le, nf_le, nt_lt, nf_lt, nt_eq, nf_eq, not_true_eq_false, and_self, and_false, false_and, eq_self, Bool.toNat_true, Bool.toNat_false, i_bool, i_bool1, Bool.false_eq_true, Bool.true_eq_false, reduceCtorEq, i_neg1, i_neg2, i_neg3, i_neg4, i_neg5, i_neg6, i_neg7, i_neg8, i_neg9, i_nega, i_negb, i_negc, i_max2, i_min2, (y_n hy), wi_nil]
    repeat (
      first
      | refine s_X8_count_0 ?_
      | refine s_X8_count_60 ?_
      | refine s_X8_count_68 ?_
      | refine s_X8_count_76 ?_
      | refine s_X8_count_84 ?_
      | refine s_X8_count_92 ?_
      | refine s_X8_count_100 ?_
      | refine s_X8_count_107 ?_
      | refine s_X8_count_108 ?_
      | refine s_X8_count_115 ?_
      | refine s_X8_count_116 ?_
      | refine s_X8_count_123 ?_
      | refine s_X8_count_124 ?_
      | refine s_X8_count_131 ?_
      | refine s_X8_count_132 ?_
      | refine s_X8_count_139 ?_
      | refine s_X8_count_140 ?_
      | refine s_X8_count_147 ?_
      | refine s_X8_count_148 ?_
      simp (disch := omega) only [B_X8_count_0, wi_iload_n, wi_tsw, B_X8_count_60, wi_aload_n, wi_getfield, fldv_7_3, fds_7_3, cnt_7, fldv_6_7, fds_6_7, cnt_6, wi_ireturn, B_X8_count_68, fldv_6_8, fds_6_8, B_X8_count_76, fldv_7_6, fds_7_6, fldv_0_3, fds_0_3, cnt_0, B_X8_count_84, fldv_6_9, fds_6_9, B_X8_count_92, fldv_6_10, fds_6_10, B_X8_count_100, wi_invokevirtual, B_X8_count_107, B_X8_count_108, B_X8_count_115, B_X8_count_116, B_X8_count_123, B_X8_count_124, fldv_7_0, fds_7_0, cnt_3, B_X8_count_131, B_X8_count_132, fldv_7_1, fds_7_1, cnt_5, B_X8_count_139, B_X8_count_140, B_X8_count_147, B_X8_count_148, wi_iconst, no0, no1, nz1, nz2, nz3, nz4, nz5, nz7, nz8, Classical.not_not, bz0, bz1, wi_nil, ld_0, ld_s, isIv_I, isLv_L, isRv_R, true_and, and_true, lset_0, lset_1, lset_s, avw_I, avw_L, avw_R, clr_cons, clr_nil, kst_0, kst_1, kstL_0, kstL_1, addk_I, pA_0, pA_s, pD_0, pD_s, wid_nil, wid_cons, rcv_c, putv_I, putv_L, List.length_cons, List.length_nil, List.set_cons_zero, List.set_cons_succ, not_false_eq_true, Nat.reduceMod, Nat.reduceDiv, Nat.reduceEqDiff, Nat.reduceLT, Nat.reduceLeDiff, Nat.reduceAdd, Nat.reduceSub, reduceIte, Nat.lt_irrefl, Nat.zero_ne_one, Nat.one_ne_zero, Nat.zero_add, List.nil_append, List.cons_append, Option.toList_some, Option.toList_none, forall_const, false_implies, true_implies, false_or, or_false, true_or, or_true, i_le, i_lt, i_eq, i_eq0, i_lt0, i_0le, i_0lt, i_le0, i_in1, i_cl, nI_add, pk_mul, pk_sub, i_div, i_rem, i_sh1, i_bit, i_or, i_and, i_andn, nt_le, nf_le, nt_lt, nf_lt, nt_eq, nf_eq, not_true_eq_false, and_self, and_false, false_and, eq_self, Bool.toNat_true, Bool.toNat_false, i_bool, i_bool1, Bool.false_eq_true, Bool.true_eq_false, reduceCtorEq, i_neg1, i_neg2, i_neg3, i_neg4, i_neg5, i_neg6, i_neg7, i_neg8, i_neg9, i_nega, i_negb, i_negc, i_max2, i_min2, (y_n hy)])
    exact q
  · rw [show swt 1 147 0 10 #[59, 67, 75, 83, 91, 99, 107, 115, 123, 131, 139] (nI 1) = 68 from by decide +kernel]
    try simp (disch := omega) only [no0, no1, nz1, nz2, nz3, nz4, nz5, nz7, nz8, Classical.not_not, bz0, bz1, wi_nil, ld_0, ld_s, isIv_I, isLv_L, isRv_R, true_and, and_true, lset_0, lset_1, lset_s, avw_I, avw_L, avw_R, clr_cons, clr_nil, kst_0, kst_1, kstL_0, kstL_1, addk_I, pA_0, pA_s, pD_0, pD_s, wid_nil, wid_cons, rcv_c, putv_I, putv_L, List.length_cons, List.length_nil, List.set_cons_zero, List.set_cons_succ, not_false_eq_true, Nat.reduceMod, Nat.reduceDiv, Nat.reduceEqDiff, Nat.reduceLT, Nat.reduceLeDiff, Nat.reduceAdd, Nat.reduceSub, reduceIte, Nat.lt_irrefl, Nat.zero_ne_one, Nat.one_ne_zero, Nat.zero_add, List.nil_append, List.cons_append, Option.toList_some, Option.toList_none, forall_const, false_implies, true_implies, false_or, or_false, true_or, or_true, i_le, i_lt, i_eq, i_eq0, i_lt0, i_0le, i_0lt, i_le0, i_in1, i_cl, nI_add, pk_mul, pk_sub, i_div, i_rem, i_sh1, i_bit, i_or, i_and, i_andn, nt_le, nf_le, nt_lt, nf_lt, nt_eq, nf_eq, not_true_eq_false, and_self, and_false, false_and, eq_self, Bool.toNat_true, Bool.toNat_false, i_bool, i_bool1, Bool.false_eq_true, Bool.true_eq_false, reduceCtorEq, i_neg1, i_neg2, i_neg3, i_neg4, i_neg5, i_neg6, i_neg7, i_neg8, i_neg9, i_nega, i_negb, i_negc, i_max2, i_min2, (y_day hy), wi_nil]
    repeat (
      first
      | refine s_X8_count_0 ?_
      | refine s_X8_count_60 ?_
      | refine s_X8_count_68 ?_
      | refine s_X8_count_76 ?_
      | refine s_X8_count_84 ?_
      | refine s_X8_count_92 ?_
      | refine s_X8_count_100 ?_
      | refine s_X8_count_107 ?_
      | refine s_X8_count_108 ?_
      | refine s_X8_count_115 ?_
      | refine s_X8_count_116 ?_
      | refine s_X8_count_123 ?_
      | refine s_X8_count_124 ?_
      | refine s_X8_count_131 ?_
      | refine s_X8_count_132 ?_
      | refine s_X8_count_139 ?_
      | refine s_X8_count_140 ?_
      | refine s_X8_count_147 ?_
      | refine s_X8_count_148 ?_
      simp (disch := omega) only [B_X8_count_0, wi_iload_n, wi_tsw, B_X8_count_60, wi_aload_n, wi_getfield, fldv_7_3, fds_7_3, cnt_7, fldv_6_7, fds_6_7, cnt_6, wi_ireturn, B_X8_count_68, fldv_6_8, fds_6_8, B_X8_count_76, fldv_7_6, fds_7_6, fldv_0_3, fds_0_3, cnt_0, B_X8_count_84, fldv_6_9, fds_6_9, B_X8_count_92, fldv_6_10, fds_6_10, B_X8_count_100, wi_invokevirtual, B_X8_count_107, B_X8_count_108, B_X8_count_115, B_X8_count_116, B_X8_count_123, B_X8_count_124, fldv_7_0, fds_7_0, cnt_3, B_X8_count_131, B_X8_count_132, fldv_7_1, fds_7_1, cnt_5, B_X8_count_139, B_X8_count_140, B_X8_count_147, B_X8_count_148, wi_iconst, no0, no1, nz1, nz2, nz3, nz4, nz5, nz7, nz8, Classical.not_not, bz0, bz1, wi_nil, ld_0, ld_s, isIv_I, isLv_L, isRv_R, true_and, and_true, lset_0, lset_1, lset_s, avw_I, avw_L, avw_R, clr_cons, clr_nil, kst_0, kst_1, kstL_0, kstL_1, addk_I, pA_0, pA_s, pD_0, pD_s, wid_nil, wid_cons, rcv_c, putv_I, putv_L, List.length_cons, List.length_nil, List.set_cons_zero, List.set_cons_succ, not_false_eq_true, Nat.reduceMod, Nat.reduceDiv, Nat.reduceEqDiff, Nat.reduceLT, Nat.reduceLeDiff, Nat.reduceAdd, Nat.reduceSub, reduceIte, Nat.lt_irrefl, Nat.zero_ne_one, Nat.one_ne_zero, Nat.zero_add, List.nil_append, List.cons_append, Option.toList_some, Option.toList_none, forall_const, false_implies, true_implies, false_or, or_false, true_or, or_true, i_le, i_lt, i_eq, i_eq0, i_lt0, i_0le, i_0lt, i_le0, i_in1, i_cl, nI_add, pk_mul, pk_sub, i_div, i_rem, i_sh1, i_bit, i_or, i_and, i_andn, nt_le, nf_le, nt_lt, nf_lt, nt_eq, nf_eq, not_true_eq_false, and_self, and_false, false_and, eq_self, Bool.toNat_true, Bool.toNat_false, i_bool, i_bool1, Bool.false_eq_true, Bool.true_eq_false, reduceCtorEq, i_neg1, i_neg2, i_neg3, i_neg4, i_neg5, i_neg6, i_neg7, i_neg8, i_neg9, i_nega, i_negb, i_negc, i_max2, i_min2, (y_day hy)])
    exact q
  · rw [show swt 1 147 0 10 #[59, 67, 75, 83, 91, 99, 107, 115, 123, 131, 139] (nI 2) = 76 from by decide +kernel]
    try simp (disch := omega) only [no0, no1, nz1, nz2, nz3, nz4, nz5, nz7, nz8, Classical.not_not, bz0, bz1, wi_nil, ld_0, ld_s, isIv_I, isLv_L, isRv_R, true_and, and_true, lset_0, lset_1, lset_s, avw_I, avw_L, avw_R, clr_cons, clr_nil, kst_0, kst_1, kstL_0, kstL_1, addk_I, pA_0, pA_s, pD_0, pD_s, wid_nil, wid_cons, rcv_c, putv_I, putv_L, List.length_cons, List.length_nil, List.set_cons_zero, List.set_cons_succ, not_false_eq_true, Nat.reduceMod, Nat.reduceDiv, Nat.reduceEqDiff, Nat.reduceLT, Nat.reduceLeDiff, Nat.reduceAdd, Nat.reduceSub, reduceIte, Nat.lt_irrefl, Nat.zero_ne_one, Nat.one_ne_zero, Nat.zero_add, List.nil_append, List.cons_append, Option.toList_some, Option.toList_none, forall_const, false_implies, true_implies, false_or, or_false, true_or, or_true, i_le, i_lt, i_eq, i_eq0, i_lt0, i_0le, i_0lt, i_le0, i_in1, i_cl, nI_add, pk_mul, pk_sub, i_div, i_rem, i_sh1, i_bit, i_or, i_and, i_andn, nt_le, nf_le, nt_lt, nf_lt, nt_eq, nf_eq, not_true_eq_false, and_self, and_false, false_and, eq_self, Bool.toNat_true, Bool.toNat_false, i_bool, i_bool1, Bool.false_eq_true, Bool.true_eq_false, reduceCtorEq, i_neg1, i_neg2, i_neg3, i_neg4, i_neg5, i_neg6, i_neg7, i_neg8, i_neg9, i_nega, i_negb, i_negc, i_max2, i_min2, hL, wi_nil]
    repeat (
      first
      | refine s_X8_count_0 ?_
      | refine s_X8_count_60 ?_
      | refine s_X8_count_68 ?_
      | refine s_X8_count_76 ?_
      | refine s_X8_count_84 ?_
      | refine s_X8_count_92 ?_
      | refine s_X8_count_100 ?_
      | refine s_X8_count_107 ?_
      | refine s_X8_count_108 ?_
      | refine s_X8_count_115 ?_
      | refine s_X8_count_116 ?_
      | refine s_X8_count_123 ?_
      | refine s_X8_count_124 ?_
      | refine s_X8_count_131 ?_
      | refine s_X8_count_132 ?_
      | refine s_X8_count_139 ?_
      | refine s_X8_count_140 ?_
      | refine s_X8_count_147 ?_
      | refine s_X8_count_148 ?_
      simp (disch := omega) only [B_X8_count_0, wi_iload_n, wi_tsw, B_X8_count_60, wi_aload_n, wi_getfield, fldv_7_3, fds_7_3, cnt_7, fldv_6_7, fds_6_7, cnt_6, wi_ireturn, B_X8_count_68, fldv_6_8, fds_6_8, B_X8_count_76, fldv_7_6, fds_7_6, fldv_0_3, fds_0_3, cnt_0, B_X8_count_84, fldv_6_9, fds_6_9, B_X8_count_92, fldv_6_10, fds_6_10, B_X8_count_100, wi_invokevirtual, B_X8_count_107, B_X8_count_108, B_X8_count_115, B_X8_count_116, B_X8_count_123, B_X8_count_124, fldv_7_0, fds_7_0, cnt_3, B_X8_count_131, B_X8_count_132, fldv_7_1, fds_7_1, cnt_5, B_X8_count_139, B_X8_count_140, B_X8_count_147, B_X8_count_148, wi_iconst, no0, no1, nz1, nz2, nz3, nz4, nz5, nz7, nz8, Classical.not_not, bz0, bz1, wi_nil, ld_0, ld_s, isIv_I, isLv_L, isRv_R, true_and, and_true, lset_0, lset_1, lset_s, avw_I, avw_L, avw_R, clr_cons, clr_nil, kst_0, kst_1, kstL_0, kstL_1, addk_I, pA_0, pA_s, pD_0, pD_s, wid_nil, wid_cons, rcv_c, putv_I, putv_L, List.length_cons, List.length_nil, List.set_cons_zero, List.set_cons_succ, not_false_eq_true, Nat.reduceMod, Nat.reduceDiv, Nat.reduceEqDiff, Nat.reduceLT, Nat.reduceLeDiff, Nat.reduceAdd, Nat.reduceSub, reduceIte, Nat.lt_irrefl, Nat.zero_ne_one, Nat.one_ne_zero, Nat.zero_add, List.nil_append, List.cons_append, Option.toList_some, Option.toList_none, forall_const, false_implies, true_implies, false_or, or_false, true_or, or_true, i_le, i_lt, i_eq, i_eq0, i_lt0, i_0le, i_0lt, i_le0, i_in1, i_cl, nI_add, pk_mul, pk_sub, i_div, i_rem, i_sh1, i_bit, i_or, i_and, i_andn, nt_le, nf_le, nt_lt, nf_lt, nt_eq, nf_eq, not_true_eq_false, and_self, and_false, false_and, eq_self, Bool.toNat_true, Bool.toNat_false, i_bool, i_bool1, Bool.false_eq_true, Bool.true_eq_false, reduceCtorEq, i_neg1, i_neg2, i_neg3, i_neg4, i_neg5, i_neg6, i_neg7, i_neg8, i_neg9, i_nega, i_negb, i_negc, i_max2, i_min2, hL])
    exact q
  · rw [show swt 1 147 0 10 #[59, 67, 75, 83, 91, 99, 107, 115, 123, 131, 139] (nI 3) = 84 from by decide +kernel]
    try simp (disch := omega) only [no0, no1, nz1, nz2, nz3, nz4, nz5, nz7, nz8, Classical.not_not, bz0, bz1, wi_nil, ld_0, ld_s, isIv_I, isLv_L, isRv_R, true_and, and_true, lset_0, lset_1, lset_s, avw_I, avw_L, avw_R, clr_cons, clr_nil, kst_0, kst_1, kstL_0, kstL_1, addk_I, pA_0, pA_s, pD_0, pD_s, wid_nil, wid_cons, rcv_c, putv_I, putv_L, List.length_cons, List.length_nil, List.set_cons_zero, List.set_cons_succ, not_false_eq_true, Nat.reduceMod, Nat.reduceDiv, Nat.reduceEqDiff, Nat.reduceLT, Nat.reduceLeDiff, Nat.reduceAdd, Nat.reduceSub, reduceIte, Nat.lt_irrefl, Nat.zero_ne_one, Nat.one_ne_zero, Nat.zero_add, List.nil_append, List.cons_append, Option.toList_some, Option.toList_none, forall_const, false_implies, true_implies, false_or, or_false, true_or, or_true, i_le, i_lt, i_eq, i_eq0, i_lt0, i_0le, i_0lt, i_le0, i_in1, i_cl, nI_add, pk_mul, pk_sub, i_div, i_rem, i_sh1, i_bit, i_or, i_and, i_andn, nt_le, nf_le, nt_lt, nf_lt, nt_eq, nf_eq, not_true_eq_false, and_self, and_false, false_and, eq_self, Bool.toNat_true, Bool.toNat_false, i_bool, i_bool1, Bool.false_eq_true, Bool.true_eq_false, reduceCtorEq, i_neg1, i_neg2, i_neg3, i_neg4, i_neg5, i_neg6, i_neg7, i_neg8, i_neg9, i_nega, i_negb, i_negc, i_max2, i_min2, (y_will hy), wi_nil]
    repeat (
      first
      | refine s_X8_count_0 ?_
      | refine s_X8_count_60 ?_
      | refine s_X8_count_68 ?_
      | refine s_X8_count_76 ?_
      | refine s_X8_count_84 ?_
      | refine s_X8_count_92 ?_
      | refine s_X8_count_100 ?_
      | refine s_X8_count_107 ?_
      | refine s_X8_count_108 ?_
      | refine s_X8_count_115 ?_
      | refine s_X8_count_116 ?_
      | refine s_X8_count_123 ?_
      | refine s_X8_count_124 ?_
      | refine s_X8_count_131 ?_
      | refine s_X8_count_132 ?_
      | refine s_X8_count_139 ?_
      | refine s_X8_count_140 ?_
      | refine s_X8_count_147 ?_
      | refine s_X8_count_148 ?_
      simp (disch := omega) only [B_X8_count_0, wi_iload_n, wi_tsw, B_X8_count_60, wi_aload_n, wi_getfield, fldv_7_3, fds_7_3, cnt_7, fldv_6_7, fds_6_7, cnt_6, wi_ireturn, B_X8_count_68, fldv_6_8, fds_6_8, B_X8_count_76, fldv_7_6, fds_7_6, fldv_0_3, fds_0_3, cnt_0, B_X8_count_84, fldv_6_9, fds_6_9, B_X8_count_92, fldv_6_10, fds_6_10, B_X8_count_100, wi_invokevirtual, B_X8_count_107, B_X8_count_108, B_X8_count_115, B_X8_count_116, B_X8_count_123, B_X8_count_124, fldv_7_0, fds_7_0, cnt_3, B_X8_count_131, B_X8_count_132, fldv_7_1, fds_7_1, cnt_5, B_X8_count_139, B_X8_count_140, B_X8_count_147, B_X8_count_148, wi_iconst, no0, no1, nz1, nz2, nz3, nz4, nz5, nz7, nz8, Classical.not_not, bz0, bz1, wi_nil, ld_0, ld_s, isIv_I, isLv_L, isRv_R, true_and, and_true, lset_0, lset_1, lset_s, avw_I, avw_L, avw_R, clr_cons, clr_nil, kst_0, kst_1, kstL_0, kstL_1, addk_I, pA_0, pA_s, pD_0, pD_s, wid_nil, wid_cons, rcv_c, putv_I, putv_L, List.length_cons, List.length_nil, List.set_cons_zero, List.set_cons_succ, not_false_eq_true, Nat.reduceMod, Nat.reduceDiv, Nat.reduceEqDiff, Nat.reduceLT, Nat.reduceLeDiff, Nat.reduceAdd, Nat.reduceSub, reduceIte, Nat.lt_irrefl, Nat.zero_ne_one, Nat.one_ne_zero, Nat.zero_add, List.nil_append, List.cons_append, Option.toList_some, Option.toList_none, forall_const, false_implies, true_implies, false_or, or_false, true_or, or_true, i_le, i_lt, i_eq, i_eq0, i_lt0, i_0le, i_0lt, i_le0, i_in1, i_cl, nI_add, pk_mul, pk_sub, i_div, i_rem, i_sh1, i_bit, i_or, i_and, i_andn, nt_le, nf_le, nt_lt, nf_lt, nt_eq, nf_eq, not_true_eq_false, and_self, and_false, false_and, eq_self, Bool.toNat_true, Bool.toNat_false, i_bool, i_bool1, Bool.false_eq_true, Bool.true_eq_false, reduceCtorEq, i_neg1, i_neg2, i_neg3, i_neg4, i_neg5, i_neg6, i_neg7, i_neg8, i_neg9, i_nega, i_negb, i_negc, i_max2, i_min2, (y_will hy)])
    exact q
  · rw [show swt 1 147 0 10 #[59, 67, 75, 83, 91, 99, 107, 115, 123, 131, 139] (nI 4) = 92 from by decide +kernel]
    try simp (disch := omega) only [no0, no1, nz1, nz2, nz3, nz4, nz5, nz7, nz8, Classical.not_not, bz0, bz1, wi_nil, ld_0, ld_s, isIv_I, isLv_L, isRv_R, true_and, and_true, lset_0, lset_1, lset_s, avw_I, avw_L, avw_R, clr_cons, clr_nil, kst_0, kst_1, kstL_0, kstL_1, addk_I, pA_0, pA_s, pD_0, pD_s, wid_nil, wid_cons, rcv_c, putv_I, putv_L, List.length_cons, List.length_nil, List.set_cons_zero, List.set_cons_succ, not_false_eq_true, Nat.reduceMod, Nat.reduceDiv, Nat.reduceEqDiff, Nat.reduceLT, Nat.reduceLeDiff, Nat.reduceAdd, Nat.reduceSub, reduceIte, Nat.lt_irrefl, Nat.zero_ne_one, Nat.one_ne_zero, Nat.zero_add, List.nil_append, List.cons_append, Option.toList_some, Option.toList_none, forall_const, false_implies, true_implies, false_or, or_false, true_or, or_true, i_le, i_lt, i_eq, i_eq0, i_lt0, i_0le, i_0lt, i_le0, i_in1, i_cl, nI_add, pk_mul, pk_sub, i_div, i_rem, i_sh1, i_bit, i_or, i_and, i_andn, nt_le, nf_le, nt_lt, nf_lt, nt_eq, nf_eq, not_true_eq_false, and_self, and_false, false_and, eq_self, Bool.toNat_true, Bool.toNat_false, i_bool, i_bool1, Bool.false_eq_true, Bool.true_eq_false, reduceCtorEq, i_neg1, i_neg2, i_neg3, i_neg4, i_neg5, i_neg6, i_neg7, i_neg8, i_neg9, i_nega, i_negb, i_negc, i_max2, i_min2, (y_offs hy), wi_nil]
    repeat (
      first
      | refine s_X8_count_0 ?_
      | refine s_X8_count_60 ?_
      | refine s_X8_count_68 ?_
      | refine s_X8_count_76 ?_
      | refine s_X8_count_84 ?_
      | refine s_X8_count_92 ?_
      | refine s_X8_count_100 ?_
      | refine s_X8_count_107 ?_
      | refine s_X8_count_108 ?_
      | refine s_X8_count_115 ?_
      | refine s_X8_count_116 ?_
      | refine s_X8_count_123 ?_
      | refine s_X8_count_124 ?_
      | refine s_X8_count_131 ?_
      | refine s_X8_count_132 ?_
      | refine s_X8_count_139 ?_
      | refine s_X8_count_140 ?_
      | refine s_X8_count_147 ?_
      | refine s_X8_count_148 ?_
      simp (disch := omega) only [B_X8_count_0, wi_iload_n, wi_tsw, B_X8_count_60, wi_aload_n, wi_getfield, fldv_7_3, fds_7_3, cnt_7, fldv_6_7, fds_6_7, cnt_6, wi_ireturn, B_X8_count_68, fldv_6_8, fds_6_8, B_X8_count_76, fldv_7_6, fds_7_6, fldv_0_3, fds_0_3, cnt_0, B_X8_count_84, fldv_6_9, fds_6_9, B_X8_count_92, fldv_6_10, fds_6_10, B_X8_count_100, wi_invokevirtual, B_X8_count_107, B_X8_count_108, B_X8_count_115, B_X8_count_116, B_X8_count_123, B_X8_count_124, fldv_7_0, fds_7_0, cnt_3, B_X8_count_131, B_X8_count_132, fldv_7_1, fds_7_1, cnt_5, B_X8_count_139, B_X8_count_140, B_X8_count_147, B_X8_count_148, wi_iconst, no0, no1, nz1, nz2, nz3, nz4, nz5, nz7, nz8, Classical.not_not, bz0, bz1, wi_nil, ld_0, ld_s, isIv_I, isLv_L, isRv_R, true_and, and_true, lset_0, lset_1, lset_s, avw_I, avw_L, avw_R, clr_cons, clr_nil, kst_0, kst_1, kstL_0, kstL_1, addk_I, pA_0, pA_s, pD_0, pD_s, wid_nil, wid_cons, rcv_c, putv_I, putv_L, List.length_cons, List.length_nil, List.set_cons_zero, List.set_cons_succ, not_false_eq_true, Nat.reduceMod, Nat.reduceDiv, Nat.reduceEqDiff, Nat.reduceLT, Nat.reduceLeDiff, Nat.reduceAdd, Nat.reduceSub, reduceIte, Nat.lt_irrefl, Nat.zero_ne_one, Nat.one_ne_zero, Nat.zero_add, List.nil_append, List.cons_append, Option.toList_some, Option.toList_none, forall_const, false_implies, true_implies, false_or, or_false, true_or, or_true, i_le, i_lt, i_eq, i_eq0, i_lt0, i_0le, i_0lt, i_le0, i_in1, i_cl, nI_add, pk_mul, pk_sub, i_div, i_rem, i_sh1, i_bit, i_or, i_and, i_andn, nt_le, nf_le, nt_lt, nf_lt, nt_eq, nf_eq, not_true_eq_false, and_self, and_false, false_and, eq_self, Bool.toNat_true, Bool.toNat_false, i_bool, i_bool1, Bool.false_eq_true, Bool.true_eq_false, reduceCtorEq, i_neg1, i_neg2, i_neg3, i_neg4, i_neg5, i_neg6, i_neg7, i_neg8, i_neg9, i_nega, i_negb, i_negc, i_max2, i_min2, (y_offs hy)])
    exact q
  · rw [show swt 1 147 0 10 #[59, 67, 75, 83, 91, 99, 107, 115, 123, 131, 139] (nI 5) = 100 from by decide +kernel]
    try simp (disch := omega) only [no0, no1, nz1, nz2, nz3, nz4, nz5, nz7, nz8, Classical.not_not, bz0, bz1, wi_nil, ld_0, ld_s, isIv_I, isLv_L, isRv_R, true_and, and_true, lset_0, lset_1, lset_s, avw_I, avw_L, avw_R, clr_cons, clr_nil, kst_0, kst_1, kstL_0, kstL_1, addk_I, pA_0, pA_s, pD_0, pD_s, wid_nil, wid_cons, rcv_c, putv_I, putv_L, List.length_cons, List.length_nil, List.set_cons_zero, List.set_cons_succ, not_false_eq_true, Nat.reduceMod, Nat.reduceDiv, Nat.reduceEqDiff, Nat.reduceLT, Nat.reduceLeDiff, Nat.reduceAdd, Nat.reduceSub, reduceIte, Nat.lt_irrefl, Nat.zero_ne_one, Nat.one_ne_zero, Nat.zero_add, List.nil_append, List.cons_append, Option.toList_some, Option.toList_none, forall_const, false_implies, true_implies, false_or, or_false, true_or, or_true, i_le, i_lt, i_eq, i_eq0, i_lt0, i_0le, i_0lt, i_le0, i_in1, i_cl, nI_add, pk_mul, pk_sub, i_div, i_rem, i_sh1, i_bit, i_or, i_and, i_andn, nt_le, nf_le, nt_lt, nf_lt, nt_eq, nf_eq, not_true_eq_false, and_self, and_false, false_and, eq_self, Bool.toNat_true, Bool.toNat_false, i_bool, i_bool1, Bool.false_eq_true, Bool.true_eq_false, reduceCtorEq, i_neg1, i_neg2, i_neg3, i_neg4, i_neg5, i_neg6, i_neg7, i_neg8, i_neg9, i_nega, i_negb, i_negc, i_max2, i_min2, wi_nil]
    repeat (
      first
      | refine s_X8_count_0 ?_
      | refine s_X8_count_60 ?_
      | refine s_X8_count_68 ?_
      | refine s_X8_count_76 ?_
      | refine s_X8_count_84 ?_
      | refine s_X8_count_92 ?_
      | refine s_X8_count_100 ?_
      | refine s_X8_count_107 ?_
      | refine s_X8_count_108 ?_
      | refine s_X8_count_115 ?_
      | refine s_X8_count_116 ?_
      | refine s_X8_count_123 ?_
      | refine s_X8_count_124 ?_
      | refine s_X8_count_131 ?_
      | refine s_X8_count_132 ?_
      | refine s_X8_count_139 ?_
      | refine s_X8_count_140 ?_
      | refine s_X8_count_147 ?_
      | refine s_X8_count_148 ?_
      simp (disch := omega) only [B_X8_count_0, wi_iload_n, wi_tsw, B_X8_count_60, wi_aload_n, wi_getfield, fldv_7_3, fds_7_3, cnt_7, fldv_6_7, fds_6_7, cnt_6, wi_ireturn, B_X8_count_68, fldv_6_8, fds_6_8, B_X8_count_76, fldv_7_6, fds_7_6, fldv_0_3, fds_0_3, cnt_0, B_X8_count_84, fldv_6_9, fds_6_9, B_X8_count_92, fldv_6_10, fds_6_10, B_X8_count_100, wi_invokevirtual, B_X8_count_107, B_X8_count_108, B_X8_count_115, B_X8_count_116, B_X8_count_123, B_X8_count_124, fldv_7_0, fds_7_0, cnt_3, B_X8_count_131, B_X8_count_132, fldv_7_1, fds_7_1, cnt_5, B_X8_count_139, B_X8_count_140, B_X8_count_147, B_X8_count_148, wi_iconst, no0, no1, nz1, nz2, nz3, nz4, nz5, nz7, nz8, Classical.not_not, bz0, bz1, wi_nil, ld_0, ld_s, isIv_I, isLv_L, isRv_R, true_and, and_true, lset_0, lset_1, lset_s, avw_I, avw_L, avw_R, clr_cons, clr_nil, kst_0, kst_1, kstL_0, kstL_1, addk_I, pA_0, pA_s, pD_0, pD_s, wid_nil, wid_cons, rcv_c, putv_I, putv_L, List.length_cons, List.length_nil, List.set_cons_zero, List.set_cons_succ, not_false_eq_true, Nat.reduceMod, Nat.reduceDiv, Nat.reduceEqDiff, Nat.reduceLT, Nat.reduceLeDiff, Nat.reduceAdd, Nat.reduceSub, reduceIte, Nat.lt_irrefl, Nat.zero_ne_one, Nat.one_ne_zero, Nat.zero_add, List.nil_append, List.cons_append, Option.toList_some, Option.toList_none, forall_const, false_implies, true_implies, false_or, or_false, true_or, or_true, i_le, i_lt, i_eq, i_eq0, i_lt0, i_0le, i_0lt, i_le0, i_in1, i_cl, nI_add, pk_mul, pk_sub, i_div, i_rem, i_sh1, i_bit, i_or, i_and, i_andn, nt_le, nf_le, nt_lt, nf_lt, nt_eq, nf_eq, not_true_eq_false, and_self, and_false, false_and, eq_self, Bool.toNat_true, Bool.toNat_false, i_bool, i_bool1, Bool.false_eq_true, Bool.true_eq_false, reduceCtorEq, i_neg1, i_neg2, i_neg3, i_neg4, i_neg5, i_neg6, i_neg7, i_neg8, i_neg9, i_nega, i_negb, i_negc, i_max2, i_min2])
    refine c_open (by decide) hy ho ?_
    try simp (disch := omega) only [no0, no1, nz1, nz2, nz3, nz4, nz5, nz7, nz8, Classical.not_not, bz0, bz1, wi_nil, ld_0, ld_s, isIv_I, isLv_L, isRv_R, true_and, and_true, lset_0, lset_1, lset_s, avw_I, avw_L, avw_R, clr_cons, clr_nil, kst_0, kst_1, kstL_0, kstL_1, addk_I, pA_0, pA_s, pD_0, pD_s, wid_nil, wid_cons, rcv_c, putv_I, putv_L, List.length_cons, List.length_nil, List.set_cons_zero, List.set_cons_succ, not_false_eq_true, Nat.reduceMod, Nat.reduceDiv, Nat.reduceEqDiff, Nat.reduceLT, Nat.reduceLeDiff, Nat.reduceAdd, Nat.reduceSub, reduceIte, Nat.lt_irrefl, Nat.zero_ne_one, Nat.one_ne_zero, Nat.zero_add, List.nil_append, List.cons_append, Option.toList_some, Option.toList_none, forall_const, false_implies, true_implies, false_or, or_false, true_or, or_true, i_le, i_lt, i_eq, i_eq0, i_lt0, i_0le, i_0lt, i_le0, i_in1, i_cl, nI_add, pk_mul, pk_sub, i_div, i_rem, i_sh1, i_bit, i_or, i_and, i_andn, nt_le, nf_le, nt_lt, nf_lt, nt_eq, nf_eq, not_true_eq_false, and_self, and_false, false_and, eq_self, Bool.toNat_true, Bool.toNat_false, i_bool, i_bool1, Bool.false_eq_true, Bool.true_eq_false, reduceCtorEq, i_neg1, i_neg2, i_neg3, i_neg4, i_neg5, i_neg6, i_neg7, i_neg8, i_neg9, i_nega, i_negb, i_negc, i_max2, i_min2, wi_nil]
    repeat (
      first
      | refine s_X8_count_0 ?_
      | refine s_X8_count_60 ?_
      | refine s_X8_count_68 ?_
      | refine s_X8_count_76 ?_
      | refine s_X8_count_84 ?_
      | refine s_X8_count_92 ?_
      | refine s_X8_count_100 ?_
      | refine s_X8_count_107 ?_
      | refine s_X8_count_108 ?_
      | refine s_X8_count_115 ?_
      | refine s_X8_count_116 ?_
      | refine s_X8_count_123 ?_
      | refine s_X8_count_124 ?_
      | refine s_X8_count_131 ?_
      | refine s_X8_count_132 ?_
      | refine s_X8_count_139 ?_
      | refine s_X8_count_140 ?_
      | refine s_X8_count_147 ?_
      | refine s_X8_count_148 ?_
      simp (disch := omega) only [B_X8_count_0, wi_iload_n, wi_tsw, B_X8_count_60, wi_aload_n, wi_getfield, fldv_7_3, fds_7_3, cnt_7, fldv_6_7, fds_6_7, cnt_6, wi_ireturn, B_X8_count_68, fldv_6_8, fds_6_8, B_X8_count_76, fldv_7_6, fds_7_6, fldv_0_3, fds_0_3, cnt_0, B_X8_count_84, fldv_6_9, fds_6_9, B_X8_count_92, fldv_6_10, fds_6_10, B_X8_count_100, wi_invokevirtual, B_X8_count_107, B_X8_count_108, B_X8_count_115, B_X8_count_116, B_X8_count_123, B_X8_count_124, fldv_7_0, fds_7_0, cnt_3, B_X8_count_131, B_X8_count_132, fldv_7_1, fds_7_1, cnt_5, B_X8_count_139, B_X8_count_140, B_X8_count_147, B_X8_count_148, wi_iconst, no0, no1, nz1, nz2, nz3, nz4, nz5, nz7, nz8, Classical.not_not, bz0, bz1, wi_nil, ld_0, ld_s, isIv_I, isLv_L, isRv_R, true_and, and_true, lset_0, lset_1, lset_s, avw_I, avw_L, avw_R, clr_cons, clr_nil, kst_0, kst_1, kstL_0, kstL_1, addk_I, pA_0, pA_s, pD_0, pD_s, wid_nil, wid_cons, rcv_c, putv_I, putv_L, List.length_cons, List.length_nil, List.set_cons_zero, List.set_cons_succ, not_false_eq_true, Nat.reduceMod, Nat.reduceDiv, Nat.reduceEqDiff, Nat.reduceLT, Nat.reduceLeDiff, Nat.reduceAdd, Nat.reduceSub, reduceIte, Nat.lt_irrefl, Nat.zero_ne_one, Nat.one_ne_zero, Nat.zero_add, List.nil_append, List.cons_append, Option.toList_some, Option.toList_none, forall_const, false_implies, true_implies, false_or, or_false, true_or, or_true, i_le, i_lt, i_eq, i_eq0, i_lt0, i_0le, i_0lt, i_le0, i_in1, i_cl, nI_add, pk_mul, pk_sub, i_div, i_rem, i_sh1, i_bit, i_or, i_and, i_andn, nt_le, nf_le, nt_lt, nf_lt, nt_eq, nf_eq, not_true_eq_false, and_self, and_false, false_and, eq_self, Bool.toNat_true, Bool.toNat_false, i_bool, i_bool1, Bool.false_eq_true, Bool.true_eq_false, reduceCtorEq, i_neg1, i_neg2, i_neg3, i_neg4, i_neg5, i_neg6, i_neg7, i_neg8, i_neg9, i_nega, i_negb, i_negc, i_max2, i_min2])
    exact q
  · rw [show swt 1 147 0 10 #[59, 67, 75, 83, 91, 99, 107, 115, 123, 131, 139] (nI 6) = 108 from by decide +kernel]
    try simp (disch := omega) only [no0, no1, nz1, nz2, nz3, nz4, nz5, nz7, nz8, Classical.not_not, bz0, bz1, wi_nil, ld_0, ld_s, isIv_I, isLv_L, isRv_R, true_and, and_true, lset_0, lset_1, lset_s, avw_I, avw_L, avw_R, clr_cons, clr_nil, kst_0, kst_1, kstL_0, kstL_1, addk_I, pA_0, pA_s, pD_0, pD_s, wid_nil, wid_cons, rcv_c, putv_I, putv_L, List.length_cons, List.length_nil, List.set_cons_zero, List.set_cons_succ, not_false_eq_true, Nat.reduceMod, Nat.reduceDiv, Nat.reduceEqDiff, Nat.reduceLT, Nat.reduceLeDiff, Nat.reduceAdd, Nat.reduceSub, reduceIte, Nat.lt_irrefl, Nat.zero_ne_one, Nat.one_ne_zero, Nat.zero_add, List.nil_append, List.cons_append, Option.toList_some, Option.toList_none, forall_const, false_implies, true_implies, false_or, or_false, true_or, or_true, i_le, i_lt, i_eq, i_eq0, i_lt0, i_0le, i_0lt, i_le0, i_in1, i_cl, nI_add, pk_mul, pk_sub, i_div, i_rem, i_sh1, i_bit, i_or, i_and, i_andn, nt_le, nf_le, nt_lt, nf_lt, nt_eq, nf_eq, not_true_eq_false, and_self, and_false, false_and, eq_self, Bool.toNat_true, Bool.toNat_false, i_bool, i_bool1, Bool.false_eq_true, Bool.true_eq_false, reduceCtorEq, i_neg1, i_neg2, i_neg3, i_neg4, i_neg5, i_neg6, i_neg7, i_neg8, i_neg9, i_nega, i_negb, i_negc, i_max2, i_min2, wi_nil]
    repeat (
      first
      | refine s_X8_count_0 ?_
      | refine s_X8_count_60 ?_
      | refine s_X8_count_68 ?_
      | refine s_X8_count_76 ?_
      | refine s_X8_count_84 ?_
      | refine s_X8_count_92 ?_
      | refine s_X8_count_100 ?_
      | refine s_X8_count_107 ?_
      | refine s_X8_count_108 ?_
      | refine s_X8_count_115 ?_
      | refine s_X8_count_116 ?_
      | refine s_X8_count_123 ?_
      | refine s_X8_count_124 ?_
      | refine s_X8_count_131 ?_
      | refine s_X8_count_132 ?_
      | refine s_X8_count_139 ?_
      | refine s_X8_count_140 ?_
      | refine s_X8_count_147 ?_
      | refine s_X8_count_148 ?_
      simp (disch := omega) only [B_X8_count_0, wi_iload_n, wi_tsw, B_X8_count_60, wi_aload_n, wi_getfield, fldv_7_3, fds_7_3, cnt_7, fldv_6_7, fds_6_7, cnt_6, wi_ireturn, B_X8_count_68, fldv_6_8, fds_6_8, B_X8_count_76, fldv_7_6, fds_7_6, fldv_0_3, fds_0_3, cnt_0, B_X8_count_84, fldv_6_9, fds_6_9, B_X8_count_92, fldv_6_10, fds_6_10, B_X8_count_100, wi_invokevirtual, B_X8_count_107, B_X8_count_108, B_X8_count_115, B_X8_count_116, B_X8_count_123, B_X8_count_124, fldv_7_0, fds_7_0, cnt_3, B_X8_count_131, B_X8_count_132, fldv_7_1, fds_7_1, cnt_5, B_X8_count_139, B_X8_count_140, B_X8_count_147, B_X8_count_148, wi_iconst, no0, no1, nz1, nz2, nz3, nz4, nz5, nz7, nz8, Classical.not_not, bz0, bz1, wi_nil, ld_0, ld_s, isIv_I, isLv_L, isRv_R, true_and, and_true, lset_0, lset_1, lset_s, avw_I, avw_L, avw_R, clr_cons, clr_nil, kst_0, kst_1, kstL_0, kstL_1, addk_I, pA_0, pA_s, pD_0, pD_s, wid_nil, wid_cons, rcv_c, putv_I, putv_L, List.length_cons, List.length_nil, List.set_cons_zero, List.set_cons_succ, not_false_eq_true, Nat.reduceMod, Nat.reduceDiv, Nat.reduceEqDiff, Nat.reduceLT, Nat.reduceLeDiff, Nat.reduceAdd, Nat.reduceSub, reduceIte, Nat.lt_irrefl, Nat.zero_ne_one, Nat.one_ne_zero, Nat.zero_add, List.nil_append, List.cons_append, Option.toList_some, Option.toList_none, forall_const, false_implies, true_implies, false_or, or_false, true_or, or_true, i_le, i_lt, i_eq, i_eq0, i_lt0, i_0le, i_0lt, i_le0, i_in1, i_cl, nI_add, pk_mul, pk_sub, i_div, i_rem, i_sh1, i_bit, i_or, i_and, i_andn, nt_le, nf_le, nt_lt, nf_lt, nt_eq, nf_eq, not_true_eq_false, and_self, and_false, false_and, eq_self, Bool.toNat_true, Bool.toNat_false, i_bool, i_bool1, Bool.false_eq_true, Bool.true_eq_false, reduceCtorEq, i_neg1, i_neg2, i_neg3, i_neg4, i_neg5, i_neg6, i_neg7, i_neg8, i_neg9, i_nega, i_negb, i_negc, i_max2, i_min2])
    refine c_openHabits (by decide) hy ho ?_
    try simp (disch := omega) only [no0, no1, nz1, nz2, nz3, nz4, nz5, nz7, nz8, Classical.not_not, bz0, bz1, wi_nil, ld_0, ld_s, isIv_I, isLv_L, isRv_R, true_and, and_true, lset_0, lset_1, lset_s, avw_I, avw_L, avw_R, clr_cons, clr_nil, kst_0, kst_1, kstL_0, kstL_1, addk_I, pA_0, pA_s, pD_0, pD_s, wid_nil, wid_cons, rcv_c, putv_I, putv_L, List.length_cons, List.length_nil, List.set_cons_zero, List.set_cons_succ, not_false_eq_true, Nat.reduceMod, Nat.reduceDiv, Nat.reduceEqDiff, Nat.reduceLT, Nat.reduceLeDiff, Nat.reduceAdd, Nat.reduceSub, reduceIte, Nat.lt_irrefl, Nat.zero_ne_one, Nat.one_ne_zero, Nat.zero_add, List.nil_append, List.cons_append, Option.toList_some, Option.toList_none, forall_const, false_implies, true_implies, false_or, or_false, true_or, or_true, i_le, i_lt, i_eq, i_eq0, i_lt0, i_0le, i_0lt, i_le0, i_in1, i_cl, nI_add, pk_mul, pk_sub, i_div, i_rem, i_sh1, i_bit, i_or, i_and, i_andn, nt_le, nf_le, nt_lt, nf_lt, nt_eq, nf_eq, not_true_eq_false, and_self, and_false, false_and, eq_self, Bool.toNat_true, Bool.toNat_false, i_bool, i_bool1, Bool.false_eq_true, Bool.true_eq_false, reduceCtorEq, i_neg1, i_neg2, i_neg3, i_neg4, i_neg5, i_neg6, i_neg7, i_neg8, i_neg9, i_nega, i_negb, i_negc, i_max2, i_min2, wi_nil]
    repeat (
      first
      | refine s_X8_count_0 ?_
      | refine s_X8_count_60 ?_
      | refine s_X8_count_68 ?_
      | refine s_X8_count_76 ?_
      | refine s_X8_count_84 ?_
      | refine s_X8_count_92 ?_
      | refine s_X8_count_100 ?_
      | refine s_X8_count_107 ?_
      | refine s_X8_count_108 ?_
      | refine s_X8_count_115 ?_
      | refine s_X8_count_116 ?_
      | refine s_X8_count_123 ?_
      | refine s_X8_count_124 ?_
      | refine s_X8_count_131 ?_
      | refine s_X8_count_132 ?_
      | refine s_X8_count_139 ?_
      | refine s_X8_count_140 ?_
      | refine s_X8_count_147 ?_
      | refine s_X8_count_148 ?_
      simp (disch := omega) only [B_X8_count_0, wi_iload_n, wi_tsw, B_X8_count_60, wi_aload_n, wi_getfield, fldv_7_3, fds_7_3, cnt_7, fldv_6_7, fds_6_7, cnt_6, wi_ireturn, B_X8_count_68, fldv_6_8, fds_6_8, B_X8_count_76, fldv_7_6, fds_7_6, fldv_0_3, fds_0_3, cnt_0, B_X8_count_84, fldv_6_9, fds_6_9, B_X8_count_92, fldv_6_10, fds_6_10, B_X8_count_100, wi_invokevirtual, B_X8_count_107, B_X8_count_108, B_X8_count_115, B_X8_count_116, B_X8_count_123, B_X8_count_124, fldv_7_0, fds_7_0, cnt_3, B_X8_count_131, B_X8_count_132, fldv_7_1, fds_7_1, cnt_5, B_X8_count_139, B_X8_count_140, B_X8_count_147, B_X8_count_148, wi_iconst, no0, no1, nz1, nz2, nz3, nz4, nz5, nz7, nz8, Classical.not_not, bz0, bz1, wi_nil, ld_0, ld_s, isIv_I, isLv_L, isRv_R, true_and, and_true, lset_0, lset_1, lset_s, avw_I, avw_L, avw_R, clr_cons, clr_nil, kst_0, kst_1, kstL_0, kstL_1, addk_I, pA_0, pA_s, pD_0, pD_s, wid_nil, wid_cons, rcv_c, putv_I, putv_L, List.length_cons, List.length_nil, List.set_cons_zero, List.set_cons_succ, not_false_eq_true, Nat.reduceMod, Nat.reduceDiv, Nat.reduceEqDiff, Nat.reduceLT, Nat.reduceLeDiff, Nat.reduceAdd, Nat.reduceSub, reduceIte, Nat.lt_irrefl, Nat.zero_ne_one, Nat.one_ne_zero, Nat.zero_add, List.nil_append, List.cons_append, Option.toList_some, Option.toList_none, forall_const, false_implies, true_implies, false_or, or_false, true_or, or_true, i_le, i_lt, i_eq, i_eq0, i_lt0, i_0le, i_0lt, i_le0, i_in1, i_cl, nI_add, pk_mul, pk_sub, i_div, i_rem, i_sh1, i_bit, i_or, i_and, i_andn, nt_le, nf_le, nt_lt, nf_lt, nt_eq, nf_eq, not_true_eq_false, and_self, and_false, false_and, eq_self, Bool.toNat_true, Bool.toNat_false, i_bool, i_bool1, Bool.false_eq_true, Bool.true_eq_false, reduceCtorEq, i_neg1, i_neg2, i_neg3, i_neg4, i_neg5, i_neg6, i_neg7, i_neg8, i_neg9, i_nega, i_negb, i_negc, i_max2, i_min2])
    exact q
  · rw [show swt 1 147 0 10 #[59, 67, 75, 83, 91, 99, 107, 115, 123, 131, 139] (nI 7) = 116 from by decide +kernel]
    try simp (disch := omega) only [no0, no1, nz1, nz2, nz3, nz4, nz5, nz7, nz8, Classical.not_not, bz0, bz1, wi_nil, ld_0, ld_s, isIv_I, isLv_L, isRv_R, true_and, and_true, lset_0, lset_1, lset_s, avw_I, avw_L, avw_R, clr_cons, clr_nil, kst_0, kst_1, kstL_0, kstL_1, addk_I, pA_0, pA_s, pD_0, pD_s, wid_nil, wid_cons, rcv_c, putv_I, putv_L, List.length_cons, List.length_nil, List.set_cons_zero, List.set_cons_succ, not_false_eq_true, Nat.reduceMod, Nat.reduceDiv, Nat.reduceEqDiff, Nat.reduceLT, Nat.reduceLeDiff, Nat.reduceAdd, Nat.reduceSub, reduceIte, Nat.lt_irrefl, Nat.zero_ne_one, Nat.one_ne_zero, Nat.zero_add, List.nil_append, List.cons_append, Option.toList_some, Option.toList_none, forall_const, false_implies, true_implies, false_or, or_false, true_or, or_true, i_le, i_lt, i_eq, i_eq0, i_lt0, i_0le, i_0lt, i_le0, i_in1, i_cl, nI_add, pk_mul, pk_sub, i_div, i_rem, i_sh1, i_bit, i_or, i_and, i_andn, nt_le, nf_le, nt_lt, nf_lt, nt_eq, nf_eq, not_true_eq_false, and_self, and_false, false_and, eq_self, Bool.toNat_true, Bool.toNat_false, i_bool, i_bool1, Bool.false_eq_true, Bool.true_eq_false, reduceCtorEq, i_neg1, i_neg2, i_neg3, i_neg4, i_neg5, i_neg6, i_neg7, i_neg8, i_neg9, i_nega, i_negb, i_negc, i_max2, i_min2, wi_nil]
    repeat (
      first
      | refine s_X8_count_0 ?_
      | refine s_X8_count_60 ?_
      | refine s_X8_count_68 ?_
      | refine s_X8_count_76 ?_
      | refine s_X8_count_84 ?_
      | refine s_X8_count_92 ?_
      | refine s_X8_count_100 ?_
      | refine s_X8_count_107 ?_
      | refine s_X8_count_108 ?_
      | refine s_X8_count_115 ?_
      | refine s_X8_count_116 ?_
      | refine s_X8_count_123 ?_
      | refine s_X8_count_124 ?_
      | refine s_X8_count_131 ?_
      | refine s_X8_count_132 ?_
      | refine s_X8_count_139 ?_
      | refine s_X8_count_140 ?_
      | refine s_X8_count_147 ?_
      | refine s_X8_count_148 ?_
      simp (disch := omega) only [B_X8_count_0, wi_iload_n, wi_tsw, B_X8_count_60, wi_aload_n, wi_getfield, fldv_7_3, fds_7_3, cnt_7, fldv_6_7, fds_6_7, cnt_6, wi_ireturn, B_X8_count_68, fldv_6_8, fds_6_8, B_X8_count_76, fldv_7_6, fds_7_6, fldv_0_3, fds_0_3, cnt_0, B_X8_count_84, fldv_6_9, fds_6_9, B_X8_count_92, fldv_6_10, fds_6_10, B_X8_count_100, wi_invokevirtual, B_X8_count_107, B_X8_count_108, B_X8_count_115, B_X8_count_116, B_X8_count_123, B_X8_count_124, fldv_7_0, fds_7_0, cnt_3, B_X8_count_131, B_X8_count_132, fldv_7_1, fds_7_1, cnt_5, B_X8_count_139, B_X8_count_140, B_X8_count_147, B_X8_count_148, wi_iconst, no0, no1, nz1, nz2, nz3, nz4, nz5, nz7, nz8, Classical.not_not, bz0, bz1, wi_nil, ld_0, ld_s, isIv_I, isLv_L, isRv_R, true_and, and_true, lset_0, lset_1, lset_s, avw_I, avw_L, avw_R, clr_cons, clr_nil, kst_0, kst_1, kstL_0, kstL_1, addk_I, pA_0, pA_s, pD_0, pD_s, wid_nil, wid_cons, rcv_c, putv_I, putv_L, List.length_cons, List.length_nil, List.set_cons_zero, List.set_cons_succ, not_false_eq_true, Nat.reduceMod, Nat.reduceDiv, Nat.reduceEqDiff, Nat.reduceLT, Nat.reduceLeDiff, Nat.reduceAdd, Nat.reduceSub, reduceIte, Nat.lt_irrefl, Nat.zero_ne_one, Nat.one_ne_zero, Nat.zero_add, List.nil_append, List.cons_append, Option.toList_some, Option.toList_none, forall_const, false_implies, true_implies, false_or, or_false, true_or, or_true, i_le, i_lt, i_eq, i_eq0, i_lt0, i_0le, i_0lt, i_le0, i_in1, i_cl, nI_add, pk_mul, pk_sub, i_div, i_rem, i_sh1, i_bit, i_or, i_and, i_andn, nt_le, nf_le, nt_lt, nf_lt, nt_eq, nf_eq, not_true_eq_false, and_self, and_false, false_and, eq_self, Bool.toNat_true, Bool.toNat_false, i_bool, i_bool1, Bool.false_eq_true, Bool.true_eq_false, reduceCtorEq, i_neg1, i_neg2, i_neg3, i_neg4, i_neg5, i_neg6, i_neg7, i_neg8, i_neg9, i_nega, i_negb, i_negc, i_max2, i_min2])
    refine c_runs (by decide) hy ho ?_
    try simp (disch := omega) only [no0, no1, nz1, nz2, nz3, nz4, nz5, nz7, nz8, Classical.not_not, bz0, bz1, wi_nil, ld_0, ld_s, isIv_I, isLv_L, isRv_R, true_and, and_true, lset_0, lset_1, lset_s, avw_I, avw_L, avw_R, clr_cons, clr_nil, kst_0, kst_1, kstL_0, kstL_1, addk_I, pA_0, pA_s, pD_0, pD_s, wid_nil, wid_cons, rcv_c, putv_I, putv_L, List.length_cons, List.length_nil, List.set_cons_zero, List.set_cons_succ, not_false_eq_true, Nat.reduceMod, Nat.reduceDiv, Nat.reduceEqDiff, Nat.reduceLT, Nat.reduceLeDiff, Nat.reduceAdd, Nat.reduceSub, reduceIte, Nat.lt_irrefl, Nat.zero_ne_one, Nat.one_ne_zero, Nat.zero_add, List.nil_append, List.cons_append, Option.toList_some, Option.toList_none, forall_const, false_implies, true_implies, false_or, or_false, true_or, or_true, i_le, i_lt, i_eq, i_eq0, i_lt0, i_0le, i_0lt, i_le0, i_in1, i_cl, nI_add, pk_mul, pk_sub, i_div, i_rem, i_sh1, i_bit, i_or, i_and, i_andn, nt_le, nf_le, nt_lt, nf_lt, nt_eq, nf_eq, not_true_eq_false, and_self, and_false, false_and, eq_self, Bool.toNat_true, Bool.toNat_false, i_bool, i_bool1, Bool.false_eq_true, Bool.true_eq_false, reduceCtorEq, i_neg1, i_neg2, i_neg3, i_neg4, i_neg5, i_neg6, i_neg7, i_neg8, i_neg9, i_nega, i_negb, i_negc, i_max2, i_min2, wi_nil]
    repeat (
      first
      | refine s_X8_count_0 ?_
      | refine s_X8_count_60 ?_
      | refine s_X8_count_68 ?_
      | refine s_X8_count_76 ?_
      | refine s_X8_count_84 ?_
      | refine s_X8_count_92 ?_
      | refine s_X8_count_100 ?_
      | refine s_X8_count_107 ?_
      | refine s_X8_count_108 ?_
      | refine s_X8_count_115 ?_
      | refine s_X8_count_116 ?_
      | refine s_X8_count_123 ?_
      | refine s_X8_count_124 ?_
      | refine s_X8_count_131 ?_
      | refine s_X8_count_132 ?_
      | refine s_X8_count_139 ?_
      | refine s_X8_count_140 ?_
      | refine s_X8_count_147 ?_
      | refine s_X8_count_148 ?_
      simp (disch := omega) only [B_X8_count_0, wi_iload_n, wi_tsw, B_X8_count_60, wi_aload_n, wi_getfield, fldv_7_3, fds_7_3, cnt_7, fldv_6_7, fds_6_7, cnt_6, wi_ireturn, B_X8_count_68, fldv_6_8, fds_6_8, B_X8_count_76, fldv_7_6, fds_7_6, fldv_0_3, fds_0_3, cnt_0, B_X8_count_84, fldv_6_9, fds_6_9, B_X8_count_92, fldv_6_10, fds_6_10, B_X8_count_100, wi_invokevirtual, B_X8_count_107, B_X8_count_108, B_X8_count_115, B_X8_count_116, B_X8_count_123, B_X8_count_124, fldv_7_0, fds_7_0, cnt_3, B_X8_count_131, B_X8_count_132, fldv_7_1, fds_7_1, cnt_5, B_X8_count_139, B_X8_count_140, B_X8_count_147, B_X8_count_148, wi_iconst, no0, no1, nz1, nz2, nz3, nz4, nz5, nz7, nz8, Classical.not_not, bz0, bz1, wi_nil, ld_0, ld_s, isIv_I, isLv_L, isRv_R, true_and, and_true, lset_0, lset_1, lset_s, avw_I, avw_L, avw_R, clr_cons, clr_nil, kst_0, kst_1, kstL_0, kstL_1, addk_I, pA_0, pA_s, pD_0, pD_s, wid_nil, wid_cons, rcv_c, putv_I, putv_L, List.length_cons, List.length_nil, List.set_cons_zero, List.set_cons_succ, not_false_eq_true, Nat.reduceMod, Nat.reduceDiv, Nat.reduceEqDiff, Nat.reduceLT, Nat.reduceLeDiff, Nat.reduceAdd, Nat.reduceSub, reduceIte, Nat.lt_irrefl, Nat.zero_ne_one, Nat.one_ne_zero, Nat.zero_add, List.nil_append, List.cons_append, Option.toList_some, Option.toList_none, forall_const, false_implies, true_implies, false_or, or_false, true_or, or_true, i_le, i_lt, i_eq, i_eq0, i_lt0, i_0le, i_0lt, i_le0, i_in1, i_cl, nI_add, pk_mul, pk_sub, i_div, i_rem, i_sh1, i_bit, i_or, i_and, i_andn, nt_le, nf_le, nt_lt, nf_lt, nt_eq, nf_eq, not_true_eq_false, and_self, and_false, false_and, eq_self, Bool.toNat_true, Bool.toNat_false, i_bool, i_bool1, Bool.false_eq_true, Bool.true_eq_false, reduceCtorEq, i_neg1, i_neg2, i_neg3, i_neg4, i_neg5, i_neg6, i_neg7, i_neg8, i_neg9, i_nega, i_negb, i_negc, i_max2, i_min2])
    exact q
  · rw [show swt 1 147 0 10 #[59, 67, 75, 83, 91, 99, 107, 115, 123, 131, 139] (nI 8) = 124 from by decide +kernel]
    try simp (disch := omega) only [no0, no1, nz1, nz2, nz3, nz4, nz5, nz7, nz8, Classical.not_not, bz0, bz1, wi_nil, ld_0, ld_s, isIv_I, isLv_L, isRv_R, true_and, and_true, lset_0, lset_1, lset_s, avw_I, avw_L, avw_R, clr_cons, clr_nil, kst_0, kst_1, kstL_0, kstL_1, addk_I, pA_0, pA_s, pD_0, pD_s, wid_nil, wid_cons, rcv_c, putv_I, putv_L, List.length_cons, List.length_nil, List.set_cons_zero, List.set_cons_succ, not_false_eq_true, Nat.reduceMod, Nat.reduceDiv, Nat.reduceEqDiff, Nat.reduceLT, Nat.reduceLeDiff, Nat.reduceAdd, Nat.reduceSub, reduceIte, Nat.lt_irrefl, Nat.zero_ne_one, Nat.one_ne_zero, Nat.zero_add, List.nil_append, List.cons_append, Option.toList_some, Option.toList_none, forall_const, false_implies, true_implies, false_or, or_false, true_or, or_true, i_le, i_lt, i_eq, i_eq0, i_lt0, i_0le, i_0lt, i_le0, i_in1, i_cl, nI_add, pk_mul, pk_sub, i_div, i_rem, i_sh1, i_bit, i_or, i_and, i_andn, nt_le, nf_le, nt_lt, nf_lt, nt_eq, nf_eq, not_true_eq_false, and_self, and_false, false_and, eq_self, Bool.toNat_true, Bool.toNat_false, i_bool, i_bool1, Bool.false_eq_true, Bool.true_eq_false, reduceCtorEq, i_neg1, i_neg2, i_neg3, i_neg4, i_neg5, i_neg6, i_neg7, i_neg8, i_neg9, i_nega, i_negb, i_negc, i_max2, i_min2, wi_nil]
    repeat (
      first
      | refine s_X8_count_0 ?_
      | refine s_X8_count_60 ?_
      | refine s_X8_count_68 ?_
      | refine s_X8_count_76 ?_
      | refine s_X8_count_84 ?_
      | refine s_X8_count_92 ?_
      | refine s_X8_count_100 ?_
      | refine s_X8_count_107 ?_
      | refine s_X8_count_108 ?_
      | refine s_X8_count_115 ?_
      | refine s_X8_count_116 ?_
      | refine s_X8_count_123 ?_
      | refine s_X8_count_124 ?_
      | refine s_X8_count_131 ?_
      | refine s_X8_count_132 ?_
      | refine s_X8_count_139 ?_
      | refine s_X8_count_140 ?_
      | refine s_X8_count_147 ?_
      | refine s_X8_count_148 ?_
      simp (disch := omega) only [B_X8_count_0, wi_iload_n, wi_tsw, B_X8_count_60, wi_aload_n, wi_getfield, fldv_7_3, fds_7_3, cnt_7, fldv_6_7, fds_6_7, cnt_6, wi_ireturn, B_X8_count_68, fldv_6_8, fds_6_8, B_X8_count_76, fldv_7_6, fds_7_6, fldv_0_3, fds_0_3, cnt_0, B_X8_count_84, fldv_6_9, fds_6_9, B_X8_count_92, fldv_6_10, fds_6_10, B_X8_count_100, wi_invokevirtual, B_X8_count_107, B_X8_count_108, B_X8_count_115, B_X8_count_116, B_X8_count_123, B_X8_count_124, fldv_7_0, fds_7_0, cnt_3, B_X8_count_131, B_X8_count_132, fldv_7_1, fds_7_1, cnt_5, B_X8_count_139, B_X8_count_140, B_X8_count_147, B_X8_count_148, wi_iconst, no0, no1, nz1, nz2, nz3, nz4, nz5, nz7, nz8, Classical.not_not, bz0, bz1, wi_nil, ld_0, ld_s, isIv_I, isLv_L, isRv_R, true_and, and_true, lset_0, lset_1, lset_s, avw_I, avw_L, avw_R, clr_cons, clr_nil, kst_0, kst_1, kstL_0, kstL_1, addk_I, pA_0, pA_s, pD_0, pD_s, wid_nil, wid_cons, rcv_c, putv_I, putv_L, List.length_cons, List.length_nil, List.set_cons_zero, List.set_cons_succ, not_false_eq_true, Nat.reduceMod, Nat.reduceDiv, Nat.reduceEqDiff, Nat.reduceLT, Nat.reduceLeDiff, Nat.reduceAdd, Nat.reduceSub, reduceIte, Nat.lt_irrefl, Nat.zero_ne_one, Nat.one_ne_zero, Nat.zero_add, List.nil_append, List.cons_append, Option.toList_some, Option.toList_none, forall_const, false_implies, true_implies, false_or, or_false, true_or, or_true, i_le, i_lt, i_eq, i_eq0, i_lt0, i_0le, i_0lt, i_le0, i_in1, i_cl, nI_add, pk_mul, pk_sub, i_div, i_rem, i_sh1, i_bit, i_or, i_and, i_andn, nt_le, nf_le, nt_lt, nf_lt, nt_eq, nf_eq, not_true_eq_false, and_self, and_false, false_and, eq_self, Bool.toNat_true, Bool.toNat_false, i_bool, i_bool1, Bool.false_eq_true, Bool.true_eq_false, reduceCtorEq, i_neg1, i_neg2, i_neg3, i_neg4, i_neg5, i_neg6, i_neg7, i_neg8, i_neg9, i_nega, i_negb, i_negc, i_max2, i_min2])
    refine c_Rmany h1 ?_
    try simp (disch := omega) only [no0, no1, nz1, nz2, nz3, nz4, nz5, nz7, nz8, Classical.not_not, bz0, bz1, wi_nil, ld_0, ld_s, isIv_I, isLv_L, isRv_R, true_and, and_true, lset_0, lset_1, lset_s, avw_I, avw_L, avw_R, clr_cons, clr_nil, kst_0, kst_1, kstL_0, kstL_1, addk_I, pA_0, pA_s, pD_0, pD_s, wid_nil, wid_cons, rcv_c, putv_I, putv_L, List.length_cons, List.length_nil, List.set_cons_zero, List.set_cons_succ, not_false_eq_true, Nat.reduceMod, Nat.reduceDiv, Nat.reduceEqDiff, Nat.reduceLT, Nat.reduceLeDiff, Nat.reduceAdd, Nat.reduceSub, reduceIte, Nat.lt_irrefl, Nat.zero_ne_one, Nat.one_ne_zero, Nat.zero_add, List.nil_append, List.cons_append, Option.toList_some, Option.toList_none, forall_const, false_implies, true_implies, false_or, or_false, true_or, or_true, i_le, i_lt, i_eq, i_eq0, i_lt0, i_0le, i_0lt, i_le0, i_in1, i_cl, nI_add, pk_mul, pk_sub, i_div, i_rem, i_sh1, i_bit, i_or, i_and, i_andn, nt_le, nf_le, nt_lt, nf_lt, nt_eq, nf_eq, not_true_eq_false, and_self, and_false, false_and, eq_self, Bool.toNat_true, Bool.toNat_false, i_bool, i_bool1, Bool.false_eq_true, Bool.true_eq_false, reduceCtorEq, i_neg1, i_neg2, i_neg3, i_neg4, i_neg5, i_neg6, i_neg7, i_neg8, i_neg9, i_nega, i_negb, i_negc, i_max2, i_min2, wi_nil]
    repeat (
      first
      | refine s_X8_count_0 ?_
      | refine s_X8_count_60 ?_
      | refine s_X8_count_68 ?_
      | refine s_X8_count_76 ?_
      | refine s_X8_count_84 ?_
      | refine s_X8_count_92 ?_
      | refine s_X8_count_100 ?_
      | refine s_X8_count_107 ?_
      | refine s_X8_count_108 ?_
      | refine s_X8_count_115 ?_
      | refine s_X8_count_116 ?_
      | refine s_X8_count_123 ?_
      | refine s_X8_count_124 ?_
      | refine s_X8_count_131 ?_
      | refine s_X8_count_132 ?_
      | refine s_X8_count_139 ?_
      | refine s_X8_count_140 ?_
      | refine s_X8_count_147 ?_
      | refine s_X8_count_148 ?_
      simp (disch := omega) only [B_X8_count_0, wi_iload_n, wi_tsw, B_X8_count_60, wi_aload_n, wi_getfield, fldv_7_3, fds_7_3, cnt_7, fldv_6_7, fds_6_7, cnt_6, wi_ireturn, B_X8_count_68, fldv_6_8, fds_6_8, B_X8_count_76, fldv_7_6, fds_7_6, fldv_0_3, fds_0_3, cnt_0, B_X8_count_84, fldv_6_9, fds_6_9, B_X8_count_92, fldv_6_10, fds_6_10, B_X8_count_100, wi_invokevirtual, B_X8_count_107, B_X8_count_108, B_X8_count_115, B_X8_count_116, B_X8_count_123, B_X8_count_124, fldv_7_0, fds_7_0, cnt_3, B_X8_count_131, B_X8_count_132, fldv_7_1, fds_7_1, cnt_5, B_X8_count_139, B_X8_count_140, B_X8_count_147, B_X8_count_148, wi_iconst, no0, no1, nz1, nz2, nz3, nz4, nz5, nz7, nz8, Classical.not_not, bz0, bz1, wi_nil, ld_0, ld_s, isIv_I, isLv_L, isRv_R, true_and, and_true, lset_0, lset_1, lset_s, avw_I, avw_L, avw_R, clr_cons, clr_nil, kst_0, kst_1, kstL_0, kstL_1, addk_I, pA_0, pA_s, pD_0, pD_s, wid_nil, wid_cons, rcv_c, putv_I, putv_L, List.length_cons, List.length_nil, List.set_cons_zero, List.set_cons_succ, not_false_eq_true, Nat.reduceMod, Nat.reduceDiv, Nat.reduceEqDiff, Nat.reduceLT, Nat.reduceLeDiff, Nat.reduceAdd, Nat.reduceSub, reduceIte, Nat.lt_irrefl, Nat.zero_ne_one, Nat.one_ne_zero, Nat.zero_add, List.nil_append, List.cons_append, Option.toList_some, Option.toList_none, forall_const, false_implies, true_implies, false_or, or_false, true_or, or_true, i_le, i_lt, i_eq, i_eq0, i_lt0, i_0le, i_0lt, i_le0, i_in1, i_cl, nI_add, pk_mul, pk_sub, i_div, i_rem, i_sh1, i_bit, i_or, i_and, i_andn, nt_le, nf_le, nt_lt, nf_lt, nt_eq, nf_eq, not_true_eq_false, and_self, and_false, false_and, eq_self, Bool.toNat_true, Bool.toNat_false, i_bool, i_bool1, Bool.false_eq_true, Bool.true_eq_false, reduceCtorEq, i_neg1, i_neg2, i_neg3, i_neg4, i_neg5, i_neg6, i_neg7, i_neg8, i_neg9, i_nega, i_negb, i_negc, i_max2, i_min2])
    exact q
  · rw [show swt 1 147 0 10 #[59, 67, 75, 83, 91, 99, 107, 115, 123, 131, 139] (nI 9) = 132 from by decide +kernel]
    try simp (disch := omega) only [no0, no1, nz1, nz2, nz3, nz4, nz5, nz7, nz8, Classical.not_not, bz0, bz1, wi_nil, ld_0, ld_s, isIv_I, isLv_L, isRv_R, true_and, and_true, lset_0, lset_1, lset_s, avw_I, avw_L, avw_R, clr_cons, clr_nil, kst_0, kst_1, kstL_0, kstL_1, addk_I, pA_0, pA_s, pD_0, pD_s, wid_nil, wid_cons, rcv_c, putv_I, putv_L, List.length_cons, List.length_nil, List.set_cons_zero, List.set_cons_succ, not_false_eq_true, Nat.reduceMod, Nat.reduceDiv, Nat.reduceEqDiff, Nat.reduceLT, Nat.reduceLeDiff, Nat.reduceAdd, Nat.reduceSub, reduceIte, Nat.lt_irrefl, Nat.zero_ne_one, Nat.one_ne_zero, Nat.zero_add, List.nil_append, List.cons_append, Option.toList_some, Option.toList_none, forall_const, false_implies, true_implies, false_or, or_false, true_or, or_true, i_le, i_lt, i_eq, i_eq0, i_lt0, i_0le, i_0lt, i_le0, i_in1, i_cl, nI_add, pk_mul, pk_sub, i_div, i_rem, i_sh1, i_bit, i_or, i_and, i_andn, nt_le, nf_le, nt_lt, nf_lt, nt_eq, nf_eq, not_true_eq_false, and_self, and_false, false_and, eq_self, Bool.toNat_true, Bool.toNat_false, i_bool, i_bool1, Bool.false_eq_true, Bool.true_eq_false, reduceCtorEq, i_neg1, i_neg2, i_neg3, i_neg4, i_neg5, i_neg6, i_neg7, i_neg8, i_neg9, i_nega, i_negb, i_negc, i_max2, i_min2, wi_nil]
    repeat (
      first
      | refine s_X8_count_0 ?_
      | refine s_X8_count_60 ?_
      | refine s_X8_count_68 ?_
      | refine s_X8_count_76 ?_
      | refine s_X8_count_84 ?_
      | refine s_X8_count_92 ?_
      | refine s_X8_count_100 ?_
      | refine s_X8_count_107 ?_
      | refine s_X8_count_108 ?_
      | refine s_X8_count_115 ?_
      | refine s_X8_count_116 ?_
      | refine s_X8_count_123 ?_
      | refine s_X8_count_124 ?_
      | refine s_X8_count_131 ?_
      | refine s_X8_count_132 ?_
      | refine s_X8_count_139 ?_
      | refine s_X8_count_140 ?_
      | refine s_X8_count_147 ?_
      | refine s_X8_count_148 ?_
      simp (disch := omega) only [B_X8_count_0, wi_iload_n, wi_tsw, B_X8_count_60, wi_aload_n, wi_getfield, fldv_7_3, fds_7_3, cnt_7, fldv_6_7, fds_6_7, cnt_6, wi_ireturn, B_X8_count_68, fldv_6_8, fds_6_8, B_X8_count_76, fldv_7_6, fds_7_6, fldv_0_3, fds_0_3, cnt_0, B_X8_count_84, fldv_6_9, fds_6_9, B_X8_count_92, fldv_6_10, fds_6_10, B_X8_count_100, wi_invokevirtual, B_X8_count_107, B_X8_count_108, B_X8_count_115, B_X8_count_116, B_X8_count_123, B_X8_count_124, fldv_7_0, fds_7_0, cnt_3, B_X8_count_131, B_X8_count_132, fldv_7_1, fds_7_1, cnt_5, B_X8_count_139, B_X8_count_140, B_X8_count_147, B_X8_count_148, wi_iconst, no0, no1, nz1, nz2, nz3, nz4, nz5, nz7, nz8, Classical.not_not, bz0, bz1, wi_nil, ld_0, ld_s, isIv_I, isLv_L, isRv_R, true_and, and_true, lset_0, lset_1, lset_s, avw_I, avw_L, avw_R, clr_cons, clr_nil, kst_0, kst_1, kstL_0, kstL_1, addk_I, pA_0, pA_s, pD_0, pD_s, wid_nil, wid_cons, rcv_c, putv_I, putv_L, List.length_cons, List.length_nil, List.set_cons_zero, List.set_cons_succ, not_false_eq_true, Nat.reduceMod, Nat.reduceDiv, Nat.reduceEqDiff, Nat.reduceLT, Nat.reduceLeDiff, Nat.reduceAdd, Nat.reduceSub, reduceIte, Nat.lt_irrefl, Nat.zero_ne_one, Nat.one_ne_zero, Nat.zero_add, List.nil_append, List.cons_append, Option.toList_some, Option.toList_none, forall_const, false_implies, true_implies, false_or, or_false, true_or, or_true, i_le, i_lt, i_eq, i_eq0, i_lt0, i_0le, i_0lt, i_le0, i_in1, i_cl, nI_add, pk_mul, pk_sub, i_div, i_rem, i_sh1, i_bit, i_or, i_and, i_andn, nt_le, nf_le, nt_lt, nf_lt, nt_eq, nf_eq, not_true_eq_false, and_self, and_false, false_and, eq_self, Bool.toNat_true, Bool.toNat_false, i_bool, i_bool1, Bool.false_eq_true, Bool.true_eq_false, reduceCtorEq, i_neg1, i_neg2, i_neg3, i_neg4, i_neg5, i_neg6, i_neg7, i_neg8, i_neg9, i_nega, i_negb, i_negc, i_max2, i_min2])
    refine c_Tmany h2 ?_
    try simp (disch := omega) only [no0, no1, nz1, nz2, nz3, nz4, nz5, nz7, nz8, Classical.not_not, bz0, bz1, wi_nil, ld_0, ld_s, isIv_I, isLv_L, isRv_R, true_and, and_true, lset_0, lset_1, lset_s, avw_I, avw_L, avw_R, clr_cons, clr_nil, kst_0, kst_1, kstL_0, kstL_1, addk_I, pA_0, pA_s, pD_0, pD_s, wid_nil, wid_cons, rcv_c, putv_I, putv_L, List.length_cons, List.length_nil, List.set_cons_zero, List.set_cons_succ, not_false_eq_true, Nat.reduceMod, Nat.reduceDiv, Nat.reduceEqDiff, Nat.reduceLT, Nat.reduceLeDiff, Nat.reduceAdd, Nat.reduceSub, reduceIte, Nat.lt_irrefl, Nat.zero_ne_one, Nat.one_ne_zero, Nat.zero_add, List.nil_append, List.cons_append, Option.toList_some, Option.toList_none, forall_const, false_implies, true_implies, false_or, or_false, true_or, or_true, i_le, i_lt, i_eq, i_eq0, i_lt0, i_0le, i_0lt, i_le0, i_in1, i_cl, nI_add, pk_mul, pk_sub, i_div, i_rem, i_sh1, i_bit, i_or, i_and, i_andn, nt_le, nf_le, nt_lt, nf_lt, nt_eq, nf_eq, not_true_eq_false, and_self, and_false, false_and, eq_self, Bool.toNat_true, Bool.toNat_false, i_bool, i_bool1, Bool.false_eq_true, Bool.true_eq_false, reduceCtorEq, i_neg1, i_neg2, i_neg3, i_neg4, i_neg5, i_neg6, i_neg7, i_neg8, i_neg9, i_nega, i_negb, i_negc, i_max2, i_min2, wi_nil]
    repeat (
      first
      | refine s_X8_count_0 ?_
      | refine s_X8_count_60 ?_
      | refine s_X8_count_68 ?_
      | refine s_X8_count_76 ?_
      | refine s_X8_count_84 ?_
      | refine s_X8_count_92 ?_
      | refine s_X8_count_100 ?_
      | refine s_X8_count_107 ?_
      | refine s_X8_count_108 ?_
      | refine s_X8_count_115 ?_
      | refine s_X8_count_116 ?_
      | refine s_X8_count_123 ?_
      | refine s_X8_count_124 ?_
      | refine s_X8_count_131 ?_
      | refine s_X8_count_132 ?_
      | refine s_X8_count_139 ?_
      | refine s_X8_count_140 ?_
      | refine s_X8_count_147 ?_
      | refine s_X8_count_148 ?_
      simp (disch := omega) only [B_X8_count_0, wi_iload_n, wi_tsw, B_X8_count_60, wi_aload_n, wi_getfield, fldv_7_3, fds_7_3, cnt_7, fldv_6_7, fds_6_7, cnt_6, wi_ireturn, B_X8_count_68, fldv_6_8, fds_6_8, B_X8_count_76, fldv_7_6, fds_7_6, fldv_0_3, fds_0_3, cnt_0, B_X8_count_84, fldv_6_9, fds_6_9, B_X8_count_92, fldv_6_10, fds_6_10, B_X8_count_100, wi_invokevirtual, B_X8_count_107, B_X8_count_108, B_X8_count_115, B_X8_count_116, B_X8_count_123, B_X8_count_124, fldv_7_0, fds_7_0, cnt_3, B_X8_count_131, B_X8_count_132, fldv_7_1, fds_7_1, cnt_5, B_X8_count_139, B_X8_count_140, B_X8_count_147, B_X8_count_148, wi_iconst, no0, no1, nz1, nz2, nz3, nz4, nz5, nz7, nz8, Classical.not_not, bz0, bz1, wi_nil, ld_0, ld_s, isIv_I, isLv_L, isRv_R, true_and, and_true, lset_0, lset_1, lset_s, avw_I, avw_L, avw_R, clr_cons, clr_nil, kst_0, kst_1, kstL_0, kstL_1, addk_I, pA_0, pA_s, pD_0, pD_s, wid_nil, wid_cons, rcv_c, putv_I, putv_L, List.length_cons, List.length_nil, List.set_cons_zero, List.set_cons_succ, not_false_eq_true, Nat.reduceMod, Nat.reduceDiv, Nat.reduceEqDiff, Nat.reduceLT, Nat.reduceLeDiff, Nat.reduceAdd, Nat.reduceSub, reduceIte, Nat.lt_irrefl, Nat.zero_ne_one, Nat.one_ne_zero, Nat.zero_add, List.nil_append, List.cons_append, Option.toList_some, Option.toList_none, forall_const, false_implies, true_implies, false_or, or_false, true_or, or_true, i_le, i_lt, i_eq, i_eq0, i_lt0, i_0le, i_0lt, i_le0, i_in1, i_cl, nI_add, pk_mul, pk_sub, i_div, i_rem, i_sh1, i_bit, i_or, i_and, i_andn, nt_le, nf_le, nt_lt, nf_lt, nt_eq, nf_eq, not_true_eq_false, and_self, and_false, false_and, eq_self, Bool.toNat_true, Bool.toNat_false, i_bool, i_bool1, Bool.false_eq_true, Bool.true_eq_false, reduceCtorEq, i_neg1, i_neg2, i_neg3, i_neg4, i_neg5, i_neg6, i_neg7, i_neg8, i_neg9, i_nega, i_negb, i_negc, i_max2, i_min2])
    exact q
  · rw [show swt 1 147 0 10 #[59, 67, 75, 83, 91, 99, 107, 115, 123, 131, 139] (nI 10) = 140 from by decide +kernel]
    try simp (disch := omega) only [no0, no1, nz1, nz2, nz3, nz4, nz5, nz7, nz8, Classical.not_not, bz0, bz1, wi_nil, ld_0, ld_s, isIv_I, isLv_L, isRv_R, true_and, and_true, lset_0, lset_1, lset_s, avw_I, avw_L, avw_R, clr_cons, clr_nil, kst_0, kst_1, kstL_0, kstL_1, addk_I, pA_0, pA_s, pD_0, pD_s, wid_nil, wid_cons, rcv_c, putv_I, putv_L, List.length_cons, List.length_nil, List.set_cons_zero, List.set_cons_succ, not_false_eq_true, Nat.reduceMod, Nat.reduceDiv, Nat.reduceEqDiff, Nat.reduceLT, Nat.reduceLeDiff, Nat.reduceAdd, Nat.reduceSub, reduceIte, Nat.lt_irrefl, Nat.zero_ne_one, Nat.one_ne_zero, Nat.zero_add, List.nil_append, List.cons_append, Option.toList_some, Option.toList_none, forall_const, false_implies, true_implies, false_or, or_false, true_or, or_true, i_le, i_lt, i_eq, i_eq0, i_lt0, i_0le, i_0lt, i_le0, i_in1, i_cl, nI_add, pk_mul, pk_sub, i_div, i_rem, i_sh1, i_bit, i_or, i_and, i_andn, nt_le, nf_le, nt_lt, nf_lt, nt_eq, nf_eq, not_true_eq_false, and_self, and_false, false_and, eq_self, Bool.toNat_true, Bool.toNat_false, i_bool, i_bool1, Bool.false_eq_true, Bool.true_eq_false, reduceCtorEq, i_neg1, i_neg2, i_neg3, i_neg4, i_neg5, i_neg6, i_neg7, i_neg8, i_neg9, i_nega, i_negb, i_negc, i_max2, i_min2, wi_nil]
    repeat (
      first
      | refine s_X8_count_0 ?_
      | refine s_X8_count_60 ?_
      | refine s_X8_count_68 ?_
      | refine s_X8_count_76 ?_
      | refine s_X8_count_84 ?_
      | refine s_X8_count_92 ?_
      | refine s_X8_count_100 ?_
      | refine s_X8_count_107 ?_
      | refine s_X8_count_108 ?_
      | refine s_X8_count_115 ?_
      | refine s_X8_count_116 ?_
      | refine s_X8_count_123 ?_
      | refine s_X8_count_124 ?_
      | refine s_X8_count_131 ?_
      | refine s_X8_count_132 ?_
      | refine s_X8_count_139 ?_
      | refine s_X8_count_140 ?_
      | refine s_X8_count_147 ?_
      | refine s_X8_count_148 ?_
      simp (disch := omega) only [B_X8_count_0, wi_iload_n, wi_tsw, B_X8_count_60, wi_aload_n, wi_getfield, fldv_7_3, fds_7_3, cnt_7, fldv_6_7, fds_6_7, cnt_6, wi_ireturn, B_X8_count_68, fldv_6_8, fds_6_8, B_X8_count_76, fldv_7_6, fds_7_6, fldv_0_3, fds_0_3, cnt_0, B_X8_count_84, fldv_6_9, fds_6_9, B_X8_count_92, fldv_6_10, fds_6_10, B_X8_count_100, wi_invokevirtual, B_X8_count_107, B_X8_count_108, B_X8_count_115, B_X8_count_116, B_X8_count_123, B_X8_count_124, fldv_7_0, fds_7_0, cnt_3, B_X8_count_131, B_X8_count_132, fldv_7_1, fds_7_1, cnt_5, B_X8_count_139, B_X8_count_140, B_X8_count_147, B_X8_count_148, wi_iconst, no0, no1, nz1, nz2, nz3, nz4, nz5, nz7, nz8, Classical.not_not, bz0, bz1, wi_nil, ld_0, ld_s, isIv_I, isLv_L, isRv_R, true_and, and_true, lset_0, lset_1, lset_s, avw_I, avw_L, avw_R, clr_cons, clr_nil, kst_0, kst_1, kstL_0, kstL_1, addk_I, pA_0, pA_s, pD_0, pD_s, wid_nil, wid_cons, rcv_c, putv_I, putv_L, List.length_cons, List.length_nil, List.set_cons_zero, List.set_cons_succ, not_false_eq_true, Nat.reduceMod, Nat.reduceDiv, Nat.reduceEqDiff, Nat.reduceLT, Nat.reduceLeDiff, Nat.reduceAdd, Nat.reduceSub, reduceIte, Nat.lt_irrefl, Nat.zero_ne_one, Nat.one_ne_zero, Nat.zero_add, List.nil_append, List.cons_append, Option.toList_some, Option.toList_none, forall_const, false_implies, true_implies, false_or, or_false, true_or, or_true, i_le, i_lt, i_eq, i_eq0, i_lt0, i_0le, i_0lt, i_le0, i_in1, i_cl, nI_add, pk_mul, pk_sub, i_div, i_rem, i_sh1, i_bit, i_or, i_and, i_andn, nt_le, nf_le, nt_lt, nf_lt, nt_eq, nf_eq, not_true_eq_false, and_self, and_false, false_and, eq_self, Bool.toNat_true, Bool.toNat_false, i_bool, i_bool1, Bool.false_eq_true, Bool.true_eq_false, reduceCtorEq, i_neg1, i_neg2, i_neg3, i_neg4, i_neg5, i_neg6, i_neg7, i_neg8, i_neg9, i_nega, i_negb, i_negc, i_max2, i_min2])
    refine c_storedMany h3 ?_
    try simp (disch := omega) only [no0, no1, nz1, nz2, nz3, nz4, nz5, nz7, nz8, Classical.not_not, bz0, bz1, wi_nil, ld_0, ld_s, isIv_I, isLv_L, isRv_R, true_and, and_true, lset_0, lset_1, lset_s, avw_I, avw_L, avw_R, clr_cons, clr_nil, kst_0, kst_1, kstL_0, kstL_1, addk_I, pA_0, pA_s, pD_0, pD_s, wid_nil, wid_cons, rcv_c, putv_I, putv_L, List.length_cons, List.length_nil, List.set_cons_zero, List.set_cons_succ, not_false_eq_true, Nat.reduceMod, Nat.reduceDiv, Nat.reduceEqDiff, Nat.reduceLT, Nat.reduceLeDiff, Nat.reduceAdd, Nat.reduceSub, reduceIte, Nat.lt_irrefl, Nat.zero_ne_one, Nat.one_ne_zero, Nat.zero_add, List.nil_append, List.cons_append, Option.toList_some, Option.toList_none, forall_const, false_implies, true_implies, false_or, or_false, true_or, or_true, i_le, i_lt, i_eq, i_eq0, i_lt0, i_0le, i_0lt, i_le0, i_in1, i_cl, nI_add, pk_mul, pk_sub, i_div, i_rem, i_sh1, i_bit, i_or, i_and, i_andn, nt_le, nf_le, nt_lt, nf_lt, nt_eq, nf_eq, not_true_eq_false, and_self, and_false, false_and, eq_self, Bool.toNat_true, Bool.toNat_false, i_bool, i_bool1, Bool.false_eq_true, Bool.true_eq_false, reduceCtorEq, i_neg1, i_neg2, i_neg3, i_neg4, i_neg5, i_neg6, i_neg7, i_neg8, i_neg9, i_nega, i_negb, i_negc, i_max2, i_min2, wi_nil]
    repeat (
      first
      | refine s_X8_count_0 ?_
      | refine s_X8_count_60 ?_
      | refine s_X8_count_68 ?_
      | refine s_X8_count_76 ?_
      | refine s_X8_count_84 ?_
      | refine s_X8_count_92 ?_
      | refine s_X8_count_100 ?_
      | refine s_X8_count_107 ?_
      | refine s_X8_count_108 ?_
      | refine s_X8_count_115 ?_
      | refine s_X8_count_116 ?_
      | refine s_X8_count_123 ?_
      | refine s_X8_count_124 ?_
      | refine s_X8_count_131 ?_
      | refine s_X8_count_132 ?_
      | refine s_X8_count_139 ?_
      | refine s_X8_count_140 ?_
      | refine s_X8_count_147 ?_
      | refine s_X8_count_148 ?_
      simp (disch := omega) only [B_X8_count_0, wi_iload_n, wi_tsw, B_X8_count_60, wi_aload_n, wi_getfield, fldv_7_3, fds_7_3, cnt_7, fldv_6_7, fds_6_7, cnt_6, wi_ireturn, B_X8_count_68, fldv_6_8, fds_6_8, B_X8_count_76, fldv_7_6, fds_7_6, fldv_0_3, fds_0_3, cnt_0, B_X8_count_84, fldv_6_9, fds_6_9, B_X8_count_92, fldv_6_10, fds_6_10, B_X8_count_100, wi_invokevirtual, B_X8_count_107, B_X8_count_108, B_X8_count_115, B_X8_count_116, B_X8_count_123, B_X8_count_124, fldv_7_0, fds_7_0, cnt_3, B_X8_count_131, B_X8_count_132, fldv_7_1, fds_7_1, cnt_5, B_X8_count_139, B_X8_count_140, B_X8_count_147, B_X8_count_148, wi_iconst, no0, no1, nz1, nz2, nz3, nz4, nz5, nz7, nz8, Classical.not_not, bz0, bz1, wi_nil, ld_0, ld_s, isIv_I, isLv_L, isRv_R, true_and, and_true, lset_0, lset_1, lset_s, avw_I, avw_L, avw_R, clr_cons, clr_nil, kst_0, kst_1, kstL_0, kstL_1, addk_I, pA_0, pA_s, pD_0, pD_s, wid_nil, wid_cons, rcv_c, putv_I, putv_L, List.length_cons, List.length_nil, List.set_cons_zero, List.set_cons_succ, not_false_eq_true, Nat.reduceMod, Nat.reduceDiv, Nat.reduceEqDiff, Nat.reduceLT, Nat.reduceLeDiff, Nat.reduceAdd, Nat.reduceSub, reduceIte, Nat.lt_irrefl, Nat.zero_ne_one, Nat.one_ne_zero, Nat.zero_add, List.nil_append, List.cons_append, Option.toList_some, Option.toList_none, forall_const, false_implies, true_implies, false_or, or_false, true_or, or_true, i_le, i_lt, i_eq, i_eq0, i_lt0, i_0le, i_0lt, i_le0, i_in1, i_cl, nI_add, pk_mul, pk_sub, i_div, i_rem, i_sh1, i_bit, i_or, i_and, i_andn, nt_le, nf_le, nt_lt, nf_lt, nt_eq, nf_eq, not_true_eq_false, and_self, and_false, false_and, eq_self, Bool.toNat_true, Bool.toNat_false, i_bool, i_bool1, Bool.false_eq_true, Bool.true_eq_false, reduceCtorEq, i_neg1, i_neg2, i_neg3, i_neg4, i_neg5, i_neg6, i_neg7, i_neg8, i_neg9, i_nega, i_negb, i_negc, i_max2, i_min2])
    exact q
theorem l_mc1 {w : Nat} (hw : w < 11) (hm : YrM S 40 Y) (ho : YOk 40 Y) (q : wpX (d + 1) mX9_counted 88 [aR 8 0, aI (nI w), aI (nI (fb_sm (hbF Y w) (Y 6 0))), aU] [] S P) : ∀ (m i : Nat), i + m = Y 6 0 → wpX (d + 1) mX9_counted 4 [aR 8 0, aI (nI w), aI (nI (fb_sm (hbF Y w) i)), aI (nI i)] [] S P := by
  have hn5 := ho.1.1
  have hyl := yop_lt (Y := Y) hn5
  intro m
  induction m with
  | zero =>
    intro i hi
    have e : i = Y 6 0 := by omega
    subst e
    refine s_X9_counted_4 ?_
    simp (disch := omega) only [B_X9_counted_4, wi_iload_n, wi_aload_n, wi_getfield, fldv_8_10, fds_8_10, cnt_8, wi_icmp_ge, wi_bipush, wi_icmp_ne, fldv_8_20, fds_8_20, wi_invokevirtual, no0, no1, nz1, nz2, nz3, nz4, nz5, nz7, nz8, Classical.not_not, bz0, bz1, wi_nil, ld_0, ld_s, isIv_I, isLv_L, isRv_R, true_and, and_true, lset_0, lset_1, lset_s, avw_I, avw_L, avw_R, clr_cons, clr_nil, kst_0, kst_1, kstL_0, kstL_1, addk_I, pA_0, pA_s, pD_0, pD_s, wid_nil, wid_cons, rcv_c, putv_I, putv_L, List.length_cons, List.length_nil, List.set_cons_zero, List.set_cons_succ, not_false_eq_true, Nat.reduceMod, Nat.reduceDiv, Nat.reduceEqDiff, Nat.reduceLT, Nat.reduceLeDiff, Nat.reduceAdd, Nat.reduceSub, reduceIte, Nat.lt_irrefl, Nat.zero_ne_one, Nat.one_ne_zero, Nat.zero_add, List.nil_append, List.cons_append, Option.toList_some, Option.toList_none, forall_const, false_implies, true_implies, false_or, or_false, true_or, or_true, i_le, i_lt, i_eq, i_eq0, i_lt0, i_0le, i_0lt, i_le0, i_in1, i_cl, nI_add, pk_mul, pk_sub, i_div, i_rem, i_sh1, i_bit, i_or, i_and, i_andn, nt_le, nf_le, nt_lt, nf_lt, nt_eq, nf_eq, not_true_eq_false, and_self, and_false, false_and, eq_self, Bool.toNat_true, Bool.toNat_false, i_bool, i_bool1, Bool.false_eq_true, Bool.true_eq_false, reduceCtorEq, i_neg1, i_neg2, i_neg3, i_neg4, i_neg5, i_neg6, i_neg7, i_neg8, i_neg9, i_nega, i_negb, i_negc, i_max2, i_min2, (m_n hm)]
    exact q
  | succ m ih =>
    intro i hi
    have hin : i < Y 6 0 := by omega
    have hsm := sm_le9 (Y := Y) hn5 (hbF_le ho (w := w)) (show i ≤ Y 6 0 by omega)
    have hh := ho.2 i hin
    have hnx := ih (i + 1) (by omega)
    rw [fb_sm_succ] at hnx
    unfold hbF at hnx
    change wpX (d + 1) mX9_counted 4 [aR 8 0, aI (nI w), aI (nI (fb_sm (hbF Y w) i + ((if w = 6 then (if (Y 6 4).testBit i then 0 else Y 2 i) else 0) + (if w = 7 then (isk (Y 0 i) 1).toNat else 0)))), aI (nI (i + 1))] [] S P at hnx
    by_cases h6 : w = 6
    · subst h6
      have hyb := yop_bit ho (show i < 5 by omega)
      rw [decide_eq_true hin, Bool.true_and] at hyb
      rw [if_pos rfl, if_neg (show ¬ (6 : Nat) = 7 by decide), Nat.add_zero] at hnx
      refine s_X9_counted_4 ?_
      simp (disch := omega) only [B_X9_counted_4, wi_iload_n, wi_aload_n, wi_getfield, fldv_8_10, fds_8_10, cnt_8, wi_icmp_ge, wi_bipush, wi_icmp_ne, fldv_8_20, fds_8_20, wi_invokevirtual, no0, no1, nz1, nz2, nz3, nz4, nz5, nz7, nz8, Classical.not_not, bz0, bz1, wi_nil, ld_0, ld_s, isIv_I, isLv_L, isRv_R, true_and, and_true, lset_0, lset_1, lset_s, avw_I, avw_L, avw_R, clr_cons, clr_nil, kst_0, kst_1, kstL_0, kstL_1, addk_I, pA_0, pA_s, pD_0, pD_s, wid_nil, wid_cons, rcv_c, putv_I, putv_L, List.length_cons, List.length_nil, List.set_cons_zero, List.set_cons_succ, not_false_eq_true, Nat.reduceMod, Nat.reduceDiv, Nat.reduceEqDiff, Nat.reduceLT, Nat.reduceLeDiff, Nat.reduceAdd, Nat.reduceSub, reduceIte, Nat.lt_irrefl, Nat.zero_ne_one, Nat.one_ne_zero, Nat.zero_add, List.nil_append, List.cons_append, Option.toList_some, Option.toList_none, forall_const, false_implies, true_implies, false_or, or_false, true_or, or_true, i_le, i_lt, i_eq, i_eq0, i_lt0, i_0le, i_0lt, i_le0, i_in1, i_cl, nI_add, pk_mul, pk_sub, i_div, i_rem, i_sh1, i_bit, i_or, i_and, i_andn, nt_le, nf_le, nt_lt, nf_lt, nt_eq, nf_eq, not_true_eq_false, and_self, and_false, false_and, eq_self, Bool.toNat_true, Bool.toNat_false, i_bool, i_bool1, Bool.false_eq_true, Bool.true_eq_false, reduceCtorEq, i_neg1, i_neg2, i_neg3, i_neg4, i_neg5, i_neg6, i_neg7, i_neg8, i_neg9, i_nega, i_negb, i_negc, i_max2, i_min2, (m_n hm)]
      refine c_there (Or.inl rfl) hm hn5 (yg_lt ho) ?_
      try simp (disch := omega) only [no0, no1, nz1, nz2, nz3, nz4, nz5, nz7, nz8, Classical.not_not, bz0, bz1, wi_nil, ld_0, ld_s, isIv_I, isLv_L, isRv_R, true_and, and_true, lset_0, lset_1, lset_s, avw_I, avw_L, avw_R, clr_cons, clr_nil, kst_0, kst_1, kstL_0, kstL_1, addk_I, pA_0, pA_s, pD_0, pD_s, wid_nil, wid_cons, rcv_c, putv_I, putv_L, List.length_cons, List.length_nil, List.set_cons_zero, List.set_cons_succ, not_false_eq_true, Nat.reduceMod, Nat.reduceDiv, Nat.reduceEqDiff, Nat.reduceLT, Nat.reduceLeDiff, Nat.reduceAdd, Nat.reduceSub, reduceIte, Nat.lt_irrefl, Nat.zero_ne_one, Nat.one_ne_zero, Nat.zero_add, List.nil_append, List.cons_append, Option.toList_some, Option.toList_none, forall_const, false_implies, true_implies, false_or, or_false, true_or, or_true, i_le, i_lt, i_eq, i_eq0, i_lt0, i_0le, i_0lt, i_le0, i_in1, i_cl, nI_add, pk_mul, pk_sub, i_div, i_rem, i_sh1, i_bit, i_or, i_and, i_andn, nt_le, nf_le, nt_lt, nf_lt, nt_eq, nf_eq, not_true_eq_false, and_self, and_false, false_and, eq_self, Bool.toNat_true, Bool.toNat_false, i_bool, i_bool1, Bool.false_eq_true, Bool.true_eq_false, reduceCtorEq, i_neg1, i_neg2, i_neg3, i_neg4, i_neg5, i_neg6, i_neg7, i_neg8, i_neg9, i_nega, i_negb, i_negc, i_max2, i_min2, wi_nil]
      repeat (
        first
        | refine s_X9_counted_0 ?_
        | refine s_X9_counted_27 ?_
        | refine s_X9_counted_31 ?_
        | refine s_X9_counted_45 ?_
        | refine s_X9_counted_46 ?_
        | refine s_X9_counted_75 ?_
        | refine s_X9_counted_79 ?_
        | refine s_X9_counted_80 ?_
        | refine s_X9_counted_88 ?_
        | refine s_X9_counted_116 ?_
        | refine s_X9_counted_117 ?_
        | refine s_X9_counted_125 ?_
        | refine s_X9_counted_152 ?_
        | refine s_X9_counted_153 ?_
        | refine s_X9_counted_161 ?_
        | refine s_X9_counted_188 ?_
        | refine s_X9_counted_189 ?_
        | refine s_X9_counted_197 ?_
        | refine s_X9_counted_236 ?_
        | refine s_X9_counted_241 ?_
        | refine s_X9_counted_248 ?_
        | refine s_X9_counted_253 ?_
        | refine s_X9_counted_260 ?_
        | refine s_X9_counted_267 ?_
        | refine s_X9_counted_275 ?_
        | refine s_X9_counted_276 ?_
        simp (disch := omega) only [B_X9_counted_0, wi_iconst, wi_istore_n, B_X9_counted_4, wi_iload_n, wi_aload_n, wi_getfield, fldv_8_10, fds_8_10, cnt_8, wi_icmp_ge, wi_bipush, wi_icmp_ne, fldv_8_20, fds_8_20, wi_invokevirtual, B_X9_counted_27, wi_invokestatic, B_X9_counted_31, wi_if_eq, wi_iadd, wi_iaload, wi_goto, cnt_31, aTy_31, aLn_31, arr_31, cnt_34, aTy_34, aLn_34, arr_34, cnt_36, aTy_36, aLn_36, arr_36, cnt_40, aTy_40, aLn_40, arr_40, cnt_43, aTy_43, aLn_43, arr_43, bsv_43, B_X9_counted_45, B_X9_counted_46, fldv_8_11, fds_8_11, wi_icmp_eq, B_X9_counted_75, B_X9_counted_79, B_X9_counted_80, wi_iinc, B_X9_counted_88, B_X9_counted_90, fldv_8_5, fds_8_5, wi_if_lt, B_X9_counted_116, B_X9_counted_117, B_X9_counted_125, B_X9_counted_127, fldv_8_8, fds_8_8, B_X9_counted_152, B_X9_counted_153, B_X9_counted_161, B_X9_counted_163, fldv_8_24, fds_8_24, wi_baload, B_X9_counted_188, B_X9_counted_189, B_X9_counted_197, wi_tsw, B_X9_counted_236, wi_ireturn, B_X9_counted_241, B_X9_counted_248, fldv_8_22, fds_8_22, B_X9_counted_253, B_X9_counted_260, B_X9_counted_267, B_X9_counted_275, B_X9_counted_276, no0, no1, nz1, nz2, nz3, nz4, nz5, nz7, nz8, Classical.not_not, bz0, bz1, wi_nil, ld_0, ld_s, isIv_I, isLv_L, isRv_R, true_and, and_true, lset_0, lset_1, lset_s, avw_I, avw_L, avw_R, clr_cons, clr_nil, kst_0, kst_1, kstL_0, kstL_1, addk_I, pA_0, pA_s, pD_0, pD_s, wid_nil, wid_cons, rcv_c, putv_I, putv_L, List.length_cons, List.length_nil, List.set_cons_zero, List.set_cons_succ, not_false_eq_true, Nat.reduceMod, Nat.reduceDiv, Nat.reduceEqDiff, Nat.reduceLT, Nat.reduceLeDiff, Nat.reduceAdd, Nat.reduceSub, reduceIte, Nat.lt_irrefl, Nat.zero_ne_one, Nat.one_ne_zero, Nat.zero_add, List.nil_append, List.cons_append, Option.toList_some, Option.toList_none, forall_const, false_implies, true_implies, false_or, or_false, true_or, or_true, i_le, i_lt, i_eq, i_eq0, i_lt0, i_0le, i_0lt, i_le0, i_in1, i_cl, nI_add, pk_mul, pk_sub, i_div, i_rem, i_sh1, i_bit, i_or, i_and, i_andn, nt_le, nf_le, nt_lt, nf_lt, nt_eq, nf_eq, not_true_eq_false, and_self, and_false, false_and, eq_self, Bool.toNat_true, Bool.toNat_false, i_bool, i_bool1, Bool.false_eq_true, Bool.true_eq_false, reduceCtorEq, i_neg1, i_neg2, i_neg3, i_neg4, i_neg5, i_neg6, i_neg7, i_neg8, i_neg9, i_nega, i_negb, i_negc, i_max2, i_min2])
      refine c_has (by omega) (by omega) ?_
      cases hg : (Y 6 4).testBit i
      · rw [hg] at hyb
        have hyb : (yop Y).testBit i = true := hyb
        rw [hg, if_neg (by decide)] at hnx
        try simp (disch := omega) only [no0, no1, nz1, nz2, nz3, nz4, nz5, nz7, nz8, Classical.not_not, bz0, bz1, wi_nil, ld_0, ld_s, isIv_I, isLv_L, isRv_R, true_and, and_true, lset_0, lset_1, lset_s, avw_I, avw_L, avw_R, clr_cons, clr_nil, kst_0, kst_1, kstL_0, kstL_1, addk_I, pA_0, pA_s, pD_0, pD_s, wid_nil, wid_cons, rcv_c, putv_I, putv_L, List.length_cons, List.length_nil, List.set_cons_zero, List.set_cons_succ, not_false_eq_true, Nat.reduceMod, Nat.reduceDiv, Nat.reduceEqDiff, Nat.reduceLT, Nat.reduceLeDiff, Nat.reduceAdd, Nat.reduceSub, reduceIte, Nat.lt_irrefl, Nat.zero_ne_one, Nat.one_ne_zero, Nat.zero_add, List.nil_append, List.cons_append, Option.toList_some, Option.toList_none, forall_const, false_implies, true_implies, false_or, or_false, true_or, or_true, i_le, i_lt, i_eq, i_eq0, i_lt0, i_0le, i_0lt, i_le0, i_in1, i_cl, nI_add, pk_mul, pk_sub, i_div, i_rem, i_sh1, i_bit, i_or, i_and, i_andn, nt_le, nf_le, nt_lt, nf_lt, nt_eq, nf_eq, not_true_eq_false, and_self, and_false, false_and, eq_self, Bool.toNat_true, Bool.toNat_false, i_bool, i_bool1, Bool.false_eq_true, Bool.true_eq_false, reduceCtorEq, i_neg1, i_neg2, i_neg3, i_neg4, i_neg5, i_neg6, i_neg7, i_neg8, i_neg9, i_nega, i_negb, i_negc, i_max2, i_min2, hyb, (m_hab hm), wi_nil]
        repeat (
          first
          | refine s_X9_counted_0 ?_
          | refine s_X9_counted_27 ?_
          | refine s_X9_counted_31 ?_
          | refine s_X9_counted_45 ?_
          | refine s_X9_counted_46 ?_
          | refine s_X9_counted_75 ?_
          | refine s_X9_counted_79 ?_
          | refine s_X9_counted_80 ?_
          | refine s_X9_counted_88 ?_
          | refine s_X9_counted_116 ?_
          | refine s_X9_counted_117 ?_
          | refine s_X9_counted_125 ?_
          | refine s_X9_counted_152 ?_
          | refine s_X9_counted_153 ?_
          | refine s_X9_counted_161 ?_
          | refine s_X9_counted_188 ?_
          | refine s_X9_counted_189 ?_
          | refine s_X9_counted_197 ?_
          | refine s_X9_counted_236 ?_
          | refine s_X9_counted_241 ?_
          | refine s_X9_counted_248 ?_
          | refine s_X9_counted_253 ?_
          | refine s_X9_counted_260 ?_
          | refine s_X9_counted_267 ?_
          | refine s_X9_counted_275 ?_
          | refine s_X9_counted_276 ?_
          simp (disch := omega) only [B_X9_counted_0, wi_iconst, wi_istore_n, B_X9_counted_4, wi_iload_n, wi_aload_n, wi_getfield, fldv_8_10, fds_8_10, cnt_8, wi_icmp_ge, wi_bipush, wi_icmp_ne, fldv_8_20, fds_8_20, wi_invokevirtual, B_X9_counted_27, wi_invokestatic, B_X9_counted_31, wi_if_eq, wi_iadd, wi_iaload, wi_goto, cnt_31, aTy_31, aLn_31, arr_31, cnt_34, aTy_34, aLn_34, arr_34, cnt_36, aTy_36, aLn_36, arr_36, cnt_40, aTy_40, aLn_40, arr_40, cnt_43, aTy_43, aLn_43, arr_43, bsv_43, B_X9_counted_45, B_X9_counted_46, fldv_8_11, fds_8_11, wi_icmp_eq, B_X9_counted_75, B_X9_counted_79, B_X9_counted_80, wi_iinc, B_X9_counted_88, B_X9_counted_90, fldv_8_5, fds_8_5, wi_if_lt, B_X9_counted_116, B_X9_counted_117, B_X9_counted_125, B_X9_counted_127, fldv_8_8, fds_8_8, B_X9_counted_152, B_X9_counted_153, B_X9_counted_161, B_X9_counted_163, fldv_8_24, fds_8_24, wi_baload, B_X9_counted_188, B_X9_counted_189, B_X9_counted_197, wi_tsw, B_X9_counted_236, wi_ireturn, B_X9_counted_241, B_X9_counted_248, fldv_8_22, fds_8_22, B_X9_counted_253, B_X9_counted_260, B_X9_counted_267, B_X9_counted_275, B_X9_counted_276, no0, no1, nz1, nz2, nz3, nz4, nz5, nz7, nz8, Classical.not_not, bz0, bz1, wi_nil, ld_0, ld_s, isIv_I, isLv_L, isRv_R, true_and, and_true, lset_0, lset_1, lset_s, avw_I, avw_L, avw_R, clr_cons, clr_nil, kst_0, kst_1, kstL_0, kstL_1, addk_I, pA_0, pA_s, pD_0, pD_s, wid_nil, wid_cons, rcv_c, putv_I, putv_L, List.length_cons, List.length_nil, List.set_cons_zero, List.set_cons_succ, not_false_eq_true, Nat.reduceMod, Nat.reduceDiv, Nat.reduceEqDiff, Nat.reduceLT, Nat.reduceLeDiff, Nat.reduceAdd, Nat.reduceSub, reduceIte, Nat.lt_irrefl, Nat.zero_ne_one, Nat.one_ne_zero, Nat.zero_add, List.nil_append, List.cons_append, Option.toList_some, Option.toList_none, forall_const, false_implies, true_implies, false_or, or_false, true_or, or_true, i_le, i_lt, i_eq, i_eq0, i_lt0, i_0le, i_0lt, i_le0, i_in1, i_cl, nI_add, pk_mul, pk_sub, i_div, i_rem, i_sh1, i_bit, i_or, i_and, i_andn, nt_le, nf_le, nt_lt, nf_lt, nt_eq, nf_eq, not_true_eq_false, and_self, and_false, false_and, eq_self, Bool.toNat_true, Bool.toNat_false, i_bool, i_bool1, Bool.false_eq_true, Bool.true_eq_false, reduceCtorEq, i_neg1, i_neg2, i_neg3, i_neg4, i_neg5, i_neg6, i_neg7, i_neg8, i_neg9, i_nega, i_negb, i_negc, i_max2, i_min2, hyb, (m_hab hm)])
        exact hnx
      · rw [hg] at hyb
        have hyb : (yop Y).testBit i = false := hyb
        rw [hg, if_pos rfl] at hnx
        try simp (disch := omega) only [no0, no1, nz1, nz2, nz3, nz4, nz5, nz7, nz8, Classical.not_not, bz0, bz1, wi_nil, ld_0, ld_s, isIv_I, isLv_L, isRv_R, true_and, and_true, lset_0, lset_1, lset_s, avw_I, avw_L, avw_R, clr_cons, clr_nil, kst_0, kst_1, kstL_0, kstL_1, addk_I, pA_0, pA_s, pD_0, pD_s, wid_nil, wid_cons, rcv_c, putv_I, putv_L, List.length_cons, List.length_nil, List.set_cons_zero, List.set_cons_succ, not_false_eq_true, Nat.reduceMod, Nat.reduceDiv, Nat.reduceEqDiff, Nat.reduceLT, Nat.reduceLeDiff, Nat.reduceAdd, Nat.reduceSub, reduceIte, Nat.lt_irrefl, Nat.zero_ne_one, Nat.one_ne_zero, Nat.zero_add, List.nil_append, List.cons_append, Option.toList_some, Option.toList_none, forall_const, false_implies, true_implies, false_or, or_false, true_or, or_true, i_le, i_lt, i_eq, i_eq0, i_lt0, i_0le, i_0lt, i_le0, i_in1, i_cl, nI_add, pk_mul, pk_sub, i_div, i_rem, i_sh1, i_bit, i_or, i_and, i_andn, nt_le, nf_le, nt_lt, nf_lt, nt_eq, nf_eq, not_true_eq_false, and_self, and_false, false_and, eq_self, Bool.toNat_true, Bool.toNat_false, i_bool, i_bool1, Bool.false_eq_true, Bool.true_eq_false, reduceCtorEq, i_neg1, i_neg2, i_neg3, i_neg4, i_neg5, i_neg6, i_neg7, i_neg8, i_neg9, i_nega, i_negb, i_negc, i_max2, i_min2, hyb, wi_nil]
        repeat (
          first
          | refine s_X9_counted_0 ?_
          | refine s_X9_counted_27 ?_
          | refine s_X9_counted_31 ?_
          | refine s_X9_counted_45 ?_
          | refine s_X9_counted_46 ?_
          | refine s_X9_counted_75 ?_
          | refine s_X9_counted_79 ?_
          | refine s_X9_counted_80 ?_
          | refine s_X9_counted_88 ?_
          | refine s_X9_counted_116 ?_
          | refine s_X9_counted_117 ?_
          | refine s_X9_counted_125 ?_
          | refine s_X9_counted_152 ?_
          | refine s_X9_counted_153 ?_
          | refine s_X9_counted_161 ?_
          | refine s_X9_counted_188 ?_
          | refine s_X9_counted_189 ?_
          | refine s_X9_counted_197 ?_
          | refine s_X9_counted_236 ?_
          | refine s_X9_counted_241 ?_
          | refine s_X9_counted_248 ?_
          | refine s_X9_counted_253 ?_
          | refine s_X9_counted_260 ?_
          | refine s_X9_counted_267 ?_
          | refine s_X9_counted_275 ?_
          | refine s_X9_counted_276 ?_
          simp (disch := omega) only [B_X9_counted_0, wi_iconst, wi_istore_n, B_X9_counted_4, wi_iload_n, wi_aload_n, wi_getfield, fldv_8_10, fds_8_10, cnt_8, wi_icmp_ge, wi_bipush, wi_icmp_ne, fldv_8_20, fds_8_20, wi_invokevirtual, B_X9_counted_27, wi_invokestatic, B_X9_counted_31, wi_if_eq, wi_iadd, wi_iaload, wi_goto, cnt_31, aTy_31, aLn_31, arr_31, cnt_34, aTy_34, aLn_34, arr_34, cnt_36, aTy_36, aLn_36, arr_36, cnt_40, aTy_40, aLn_40, arr_40, cnt_43, aTy_43, aLn_43, arr_43, bsv_43, B_X9_counted_45, B_X9_counted_46, fldv_8_11, fds_8_11, wi_icmp_eq, B_X9_counted_75, B_X9_counted_79, B_X9_counted_80, wi_iinc, B_X9_counted_88, B_X9_counted_90, fldv_8_5, fds_8_5, wi_if_lt, B_X9_counted_116, B_X9_counted_117, B_X9_counted_125, B_X9_counted_127, fldv_8_8, fds_8_8, B_X9_counted_152, B_X9_counted_153, B_X9_counted_161, B_X9_counted_163, fldv_8_24, fds_8_24, wi_baload, B_X9_counted_188, B_X9_counted_189, B_X9_counted_197, wi_tsw, B_X9_counted_236, wi_ireturn, B_X9_counted_241, B_X9_counted_248, fldv_8_22, fds_8_22, B_X9_counted_253, B_X9_counted_260, B_X9_counted_267, B_X9_counted_275, B_X9_counted_276, no0, no1, nz1, nz2, nz3, nz4, nz5, nz7, nz8, Classical.not_not, bz0, bz1, wi_nil, ld_0, ld_s, isIv_I, isLv_L, isRv_R, true_and, and_true, lset_0, lset_1, lset_s, avw_I, avw_L, avw_R, clr_cons, clr_nil, kst_0, kst_1, kstL_0, kstL_1, addk_I, pA_0, pA_s, pD_0, pD_s, wid_nil, wid_cons, rcv_c, putv_I, putv_L, List.length_cons, List.length_nil, List.set_cons_zero, List.set_cons_succ, not_false_eq_true, Nat.reduceMod, Nat.reduceDiv, Nat.reduceEqDiff, Nat.reduceLT, Nat.reduceLeDiff, Nat.reduceAdd, Nat.reduceSub, reduceIte, Nat.lt_irrefl, Nat.zero_ne_one, Nat.one_ne_zero, Nat.zero_add, List.nil_append, List.cons_append, Option.toList_some, Option.toList_none, forall_const, false_implies, true_implies, false_or, or_false, true_or, or_true, i_le, i_lt, i_eq, i_eq0, i_lt0, i_0le, i_0lt, i_le0, i_in1, i_cl, nI_add, pk_mul, pk_sub, i_div, i_rem, i_sh1, i_bit, i_or, i_and, i_andn, nt_le, nf_le, nt_lt, nf_lt, nt_eq, nf_eq, not_true_eq_false, and_self, and_false, false_and, eq_self, Bool.toNat_true, Bool.toNat_false, i_bool, i_bool1, Bool.false_eq_true, Bool.true_eq_false, reduceCtorEq, i_neg1, i_neg2, i_neg3, i_neg4, i_neg5, i_neg6, i_neg7, i_neg8, i_neg9, i_nega, i_negb, i_negc, i_max2, i_min2, hyb])
        exact hnx
    · rw [if_neg h6, Nat.zero_add] at hnx
      by_cases h7 : w = 7
      · subst h7
        rw [if_pos rfl, isk1 hh.1] at hnx
        by_cases ha : Y 0 i = 1
        · rw [decide_eq_true (Or.inl ha)] at hnx
          refine s_X9_counted_4 ?_
          simp (disch := omega) only [B_X9_counted_4, wi_iload_n, wi_aload_n, wi_getfield, fldv_8_10, fds_8_10, cnt_8, wi_icmp_ge, wi_bipush, wi_icmp_ne, fldv_8_20, fds_8_20, wi_invokevirtual, no0, no1, nz1, nz2, nz3, nz4, nz5, nz7, nz8, Classical.not_not, bz0, bz1, wi_nil, ld_0, ld_s, isIv_I, isLv_L, isRv_R, true_and, and_true, lset_0, lset_1, lset_s, avw_I, avw_L, avw_R, clr_cons, clr_nil, kst_0, kst_1, kstL_0, kstL_1, addk_I, pA_0, pA_s, pD_0, pD_s, wid_nil, wid_cons, rcv_c, putv_I, putv_L, List.length_cons, List.length_nil, List.set_cons_zero, List.set_cons_succ, not_false_eq_true, Nat.reduceMod, Nat.reduceDiv, Nat.reduceEqDiff, Nat.reduceLT, Nat.reduceLeDiff, Nat.reduceAdd, Nat.reduceSub, reduceIte, Nat.lt_irrefl, Nat.zero_ne_one, Nat.one_ne_zero, Nat.zero_add, List.nil_append, List.cons_append, Option.toList_some, Option.toList_none, forall_const, false_implies, true_implies, false_or, or_false, true_or, or_true, i_le, i_lt, i_eq, i_eq0, i_lt0, i_0le, i_0lt, i_le0, i_in1, i_cl, nI_add, pk_mul, pk_sub, i_div, i_rem, i_sh1, i_bit, i_or, i_and, i_andn, nt_le, nf_le, nt_lt, nf_lt, nt_eq, nf_eq, not_true_eq_false, and_self, and_false, false_and, eq_self, Bool.toNat_true, Bool.toNat_false, i_bool, i_bool1, Bool.false_eq_true, Bool.true_eq_false, reduceCtorEq, i_neg1, i_neg2, i_neg3, i_neg4, i_neg5, i_neg6, i_neg7, i_neg8, i_neg9, i_nega, i_negb, i_negc, i_max2, i_min2, (m_n hm)]
          try simp (disch := omega) only [no0, no1, nz1, nz2, nz3, nz4, nz5, nz7, nz8, Classical.not_not, bz0, bz1, wi_nil, ld_0, ld_s, isIv_I, isLv_L, isRv_R, true_and, and_true, lset_0, lset_1, lset_s, avw_I, avw_L, avw_R, clr_cons, clr_nil, kst_0, kst_1, kstL_0, kstL_1, addk_I, pA_0, pA_s, pD_0, pD_s, wid_nil, wid_cons, rcv_c, putv_I, putv_L, List.length_cons, List.length_nil, List.set_cons_zero, List.set_cons_succ, not_false_eq_true, Nat.reduceMod, Nat.reduceDiv, Nat.reduceEqDiff, Nat.reduceLT, Nat.reduceLeDiff, Nat.reduceAdd, Nat.reduceSub, reduceIte, Nat.lt_irrefl, Nat.zero_ne_one, Nat.one_ne_zero, Nat.zero_add, List.nil_append, List.cons_append, Option.toList_some, Option.toList_none, forall_const, false_implies, true_implies, false_or, or_false, true_or, or_true, i_le, i_lt, i_eq, i_eq0, i_lt0, i_0le, i_0lt, i_le0, i_in1, i_cl, nI_add, pk_mul, pk_sub, i_div, i_rem, i_sh1, i_bit, i_or, i_and, i_andn, nt_le, nf_le, nt_lt, nf_lt, nt_eq, nf_eq, not_true_eq_false, and_self, and_false, false_and, eq_self, Bool.toNat_true, Bool.toNat_false, i_bool, i_bool1, Bool.false_eq_true, Bool.true_eq_false, reduceCtorEq, i_neg1, i_neg2, i_neg3, i_neg4, i_neg5, i_neg6, i_neg7, i_neg8, i_neg9, i_nega, i_negb, i_negc, i_max2, i_min2, (m_kind hm), wi_nil]
          repeat (
            first
            | refine s_X9_counted_0 ?_
            | refine s_X9_counted_27 ?_
            | refine s_X9_counted_31 ?_
            | refine s_X9_counted_45 ?_
            | refine s_X9_counted_46 ?_
            | refine s_X9_counted_75 ?_
            | refine s_X9_counted_79 ?_
            | refine s_X9_counted_80 ?_
            | refine s_X9_counted_88 ?_
            | refine s_X9_counted_116 ?_
            | refine s_X9_counted_117 ?_
            | refine s_X9_counted_125 ?_
            | refine s_X9_counted_152 ?_
            | refine s_X9_counted_153 ?_
            | refine s_X9_counted_161 ?_
            | refine s_X9_counted_188 ?_
            | refine s_X9_counted_189 ?_
            | refine s_X9_counted_197 ?_
            | refine s_X9_counted_236 ?_
            | refine s_X9_counted_241 ?_
            | refine s_X9_counted_248 ?_
            | refine s_X9_counted_253 ?_
            | refine s_X9_counted_260 ?_
            | refine s_X9_counted_267 ?_
            | refine s_X9_counted_275 ?_
            | refine s_X9_counted_276 ?_
            simp (disch := omega) only [B_X9_counted_0, wi_iconst, wi_istore_n, B_X9_counted_4, wi_iload_n, wi_aload_n, wi_getfield, fldv_8_10, fds_8_10, cnt_8, wi_icmp_ge, wi_bipush, wi_icmp_ne, fldv_8_20, fds_8_20, wi_invokevirtual, B_X9_counted_27, wi_invokestatic, B_X9_counted_31, wi_if_eq, wi_iadd, wi_iaload, wi_goto, cnt_31, aTy_31, aLn_31, arr_31, cnt_34, aTy_34, aLn_34, arr_34, cnt_36, aTy_36, aLn_36, arr_36, cnt_40, aTy_40, aLn_40, arr_40, cnt_43, aTy_43, aLn_43, arr_43, bsv_43, B_X9_counted_45, B_X9_counted_46, fldv_8_11, fds_8_11, wi_icmp_eq, B_X9_counted_75, B_X9_counted_79, B_X9_counted_80, wi_iinc, B_X9_counted_88, B_X9_counted_90, fldv_8_5, fds_8_5, wi_if_lt, B_X9_counted_116, B_X9_counted_117, B_X9_counted_125, B_X9_counted_127, fldv_8_8, fds_8_8, B_X9_counted_152, B_X9_counted_153, B_X9_counted_161, B_X9_counted_163, fldv_8_24, fds_8_24, wi_baload, B_X9_counted_188, B_X9_counted_189, B_X9_counted_197, wi_tsw, B_X9_counted_236, wi_ireturn, B_X9_counted_241, B_X9_counted_248, fldv_8_22, fds_8_22, B_X9_counted_253, B_X9_counted_260, B_X9_counted_267, B_X9_counted_275, B_X9_counted_276, no0, no1, nz1, nz2, nz3, nz4, nz5, nz7, nz8, Classical.not_not, bz0, bz1, wi_nil, ld_0, ld_s, isIv_I, isLv_L, isRv_R, true_and, and_true, lset_0, lset_1, lset_s, avw_I, avw_L, avw_R, clr_cons, clr_nil, kst_0, kst_1, kstL_0, kstL_1, addk_I, pA_0, pA_s, pD_0, pD_s, wid_nil, wid_cons, rcv_c, putv_I, putv_L, List.length_cons, List.length_nil, List.set_cons_zero, List.set_cons_succ, not_false_eq_true, Nat.reduceMod, Nat.reduceDiv, Nat.reduceEqDiff, Nat.reduceLT, Nat.reduceLeDiff, Nat.reduceAdd, Nat.reduceSub, reduceIte, Nat.lt_irrefl, Nat.zero_ne_one, Nat.one_ne_zero, Nat.zero_add, List.nil_append, List.cons_append, Option.toList_some, Option.toList_none, forall_const, false_implies, true_implies, false_or, or_false, true_or, or_true, i_le, i_lt, i_eq, i_eq0, i_lt0, i_0le, i_0lt, i_le0, i_in1, i_cl, nI_add, pk_mul, pk_sub, i_div, i_rem, i_sh1, i_bit, i_or, i_and, i_andn, nt_le, nf_le, nt_lt, nf_lt, nt_eq, nf_eq, not_true_eq_false, and_self, and_false, false_and, eq_self, Bool.toNat_true, Bool.toNat_false, i_bool, i_bool1, Bool.false_eq_true, Bool.true_eq_false, reduceCtorEq, i_neg1, i_neg2, i_neg3, i_neg4, i_neg5, i_neg6, i_neg7, i_neg8, i_neg9, i_nega, i_negb, i_negc, i_max2, i_min2, (m_kind hm)])
          exact hnx
        · by_cases hb : Y 0 i = 4
          · rw [decide_eq_true (Or.inr hb)] at hnx
            refine s_X9_counted_4 ?_
            simp (disch := omega) only [B_X9_counted_4, wi_iload_n, wi_aload_n, wi_getfield, fldv_8_10, fds_8_10, cnt_8, wi_icmp_ge, wi_bipush, wi_icmp_ne, fldv_8_20, fds_8_20, wi_invokevirtual, no0, no1, nz1, nz2, nz3, nz4, nz5, nz7, nz8, Classical.not_not, bz0, bz1, wi_nil, ld_0, ld_s, isIv_I, isLv_L, isRv_R, true_and, and_true, lset_0, lset_1, lset_s, avw_I, avw_L, avw_R, clr_cons, clr_nil, kst_0, kst_1, kstL_0, kstL_1, addk_I, pA_0, pA_s, pD_0, pD_s, wid_nil, wid_cons, rcv_c, putv_I, putv_L, List.length_cons, List.length_nil, List.set_cons_zero, List.set_cons_succ, not_false_eq_true, Nat.reduceMod, Nat.reduceDiv, Nat.reduceEqDiff, Nat.reduceLT, Nat.reduceLeDiff, Nat.reduceAdd, Nat.reduceSub, reduceIte, Nat.lt_irrefl, Nat.zero_ne_one, Nat.one_ne_zero, Nat.zero_add, List.nil_append, List.cons_append, Option.toList_some, Option.toList_none, forall_const, false_implies, true_implies, false_or, or_false, true_or, or_true, i_le, i_lt, i_eq, i_eq0, i_lt0, i_0le, i_0lt, i_le0, i_in1, i_cl, nI_add, pk_mul, pk_sub, i_div, i_rem, i_sh1, i_bit, i_or, i_and, i_andn, nt_le, nf_le, nt_lt, nf_lt, nt_eq, nf_eq, not_true_eq_false, and_self, and_false, false_and, eq_self, Bool.toNat_true, Bool.toNat_false, i_bool, i_bool1, Bool.false_eq_true, Bool.true_eq_false, reduceCtorEq, i_neg1, i_neg2, i_neg3, i_neg4, i_neg5, i_neg6, i_neg7, i_neg8, i_neg9, i_nega, i_negb, i_negc, i_max2, i_min2, (m_n hm)]
            try simp (disch := omega) only [no0, no1, nz1, nz2, nz3, nz4, nz5, nz7, nz8, Classical.not_not, bz0, bz1, wi_nil, ld_0, ld_s, isIv_I, isLv_L, isRv_R, true_and, and_true, lset_0, lset_1, lset_s, avw_I, avw_L, avw_R, clr_cons, clr_nil, kst_0, kst_1, kstL_0, kstL_1, addk_I, pA_0, pA_s, pD_0, pD_s, wid_nil, wid_cons, rcv_c, putv_I, putv_L, List.length_cons, List.length_nil, List.set_cons_zero, List.set_cons_succ, not_false_eq_true, Nat.reduceMod, Nat.reduceDiv, Nat.reduceEqDiff, Nat.reduceLT, Nat.reduceLeDiff, Nat.reduceAdd, Nat.reduceSub, reduceIte, Nat.lt_irrefl, Nat.zero_ne_one, Nat.one_ne_zero, Nat.zero_add, List.nil_append, List.cons_append, Option.toList_some, Option.toList_none, forall_const, false_implies, true_implies, false_or, or_false, true_or, or_true, i_le, i_lt, i_eq, i_eq0, i_lt0, i_0le, i_0lt, i_le0, i_in1, i_cl, nI_add, pk_mul, pk_sub, i_div, i_rem, i_sh1, i_bit, i_or, i_and, i_andn, nt_le, nf_le, nt_lt, nf_lt, nt_eq, nf_eq, not_true_eq_false, and_self, and_false, false_and, eq_self, Bool.toNat_true, Bool.toNat_false, i_bool, i_bool1, Bool.false_eq_true, Bool.true_eq_false, reduceCtorEq, i_neg1, i_neg2, i_neg3, i_neg4, i_neg5, i_neg6, i_neg7, i_neg8, i_neg9, i_nega, i_negb, i_negc, i_max2, i_min2, (m_kind hm), wi_nil]
            repeat (
              first
              | refine s_X9_counted_0 ?_
              | refine s_X9_counted_27 ?_
              | refine s_X9_counted_31 ?_
              | refine s_X9_counted_45 ?_
              | refine s_X9_counted_46 ?_
              | refine s_X9_counted_75 ?_
              | refine s_X9_counted_79 ?_
              | refine s_X9_counted_80 ?_
              | refine s_X9_counted_88 ?_
              | refine s_X9_counted_116 ?_
              | refine s_X9_counted_117 ?_
              | refine s_X9_counted_125 ?_
              | refine s_X9_counted_152 ?_
              | refine s_X9_counted_153 ?_
              | refine s_X9_counted_161 ?_
              | refine s_X9_counted_188 ?_
              | refine s_X9_counted_189 ?_
              | refine s_X9_counted_197 ?_
              | refine s_X9_counted_236 ?_
              | refine s_X9_counted_241 ?_
              | refine s_X9_counted_248 ?_
              | refine s_X9_counted_253 ?_
              | refine s_X9_counted_260 ?_
              | refine s_X9_counted_267 ?_
              | refine s_X9_counted_275 ?_
              | refine s_X9_counted_276 ?_
              simp (disch := omega) only [B_X9_counted_0, wi_iconst, wi_istore_n, B_X9_counted_4, wi_iload_n, wi_aload_n, wi_getfield, fldv_8_10, fds_8_10, cnt_8, wi_icmp_ge, wi_bipush, wi_icmp_ne, fldv_8_20, fds_8_20, wi_invokevirtual, B_X9_counted_27, wi_invokestatic, B_X9_counted_31, wi_if_eq, wi_iadd, wi_iaload, wi_goto, cnt_31, aTy_31, aLn_31, arr_31, cnt_34, aTy_34, aLn_34, arr_34, cnt_36, aTy_36, aLn_36, arr_36, cnt_40, aTy_40, aLn_40, arr_40, cnt_43, aTy_43, aLn_43, arr_43, bsv_43, B_X9_counted_45, B_X9_counted_46, fldv_8_11, fds_8_11, wi_icmp_eq, B_X9_counted_75, B_X9_counted_79, B_X9_counted_80, wi_iinc, B_X9_counted_88, B_X9_counted_90, fldv_8_5, fds_8_5, wi_if_lt, B_X9_counted_116, B_X9_counted_117, B_X9_counted_125, B_X9_counted_127, fldv_8_8, fds_8_8, B_X9_counted_152, B_X9_counted_153, B_X9_counted_161, B_X9_counted_163, fldv_8_24, fds_8_24, wi_baload, B_X9_counted_188, B_X9_counted_189, B_X9_counted_197, wi_tsw, B_X9_counted_236, wi_ireturn, B_X9_counted_241, B_X9_counted_248, fldv_8_22, fds_8_22, B_X9_counted_253, B_X9_counted_260, B_X9_counted_267, B_X9_counted_275, B_X9_counted_276, no0, no1, nz1, nz2, nz3, nz4, nz5, nz7, nz8, Classical.not_not, bz0, bz1, wi_nil, ld_0, ld_s, isIv_I, isLv_L, isRv_R, true_and, and_true, lset_0, lset_1, lset_s, avw_I, avw_L, avw_R, clr_cons, clr_nil, kst_0, kst_1, kstL_0, kstL_1, addk_I, pA_0, pA_s, pD_0, pD_s, wid_nil, wid_cons, rcv_c, putv_I, putv_L, List.length_cons, List.length_nil, List.set_cons_zero, List.set_cons_succ, not_false_eq_true, Nat.reduceMod, Nat.reduceDiv, Nat.reduceEqDiff, Nat.reduceLT, Nat.reduceLeDiff, Nat.reduceAdd, Nat.reduceSub, reduceIte, Nat.lt_irrefl, Nat.zero_ne_one, Nat.one_ne_zero, Nat.zero_add, List.nil_append, List.cons_append, Option.toList_some, Option.toList_none, forall_const, false_implies, true_implies, false_or, or_false, true_or, or_true, i_le, i_lt, i_eq, i_eq0, i_lt0, i_0le, i_0lt, i_le0, i_in1, i_cl, nI_add, pk_mul, pk_sub, i_div, i_rem, i_sh1, i_bit, i_or, i_and, i_andn, nt_le, nf_le, nt_lt, nf_lt, nt_eq, nf_eq, not_true_eq_false, and_self, and_false, false_and, eq_self, Bool.toNat_true, Bool.toNat_false, i_bool, i_bool1, Bool.false_eq_true, Bool.true_eq_false, reduceCtorEq, i_neg1, i_neg2, i_neg3, i_neg4, i_neg5, i_neg6, i_neg7, i_neg8, i_neg9, i_nega, i_negb, i_negc, i_max2, i_min2, (m_kind hm)])
            exact hnx
          · rw [decide_eq_false (fun z => by omega)] at hnx
            refine s_X9_counted_4 ?_
            simp (disch := omega) only [B_X9_counted_4, wi_iload_n, wi_aload_n, wi_getfield, fldv_8_10, fds_8_10, cnt_8, wi_icmp_ge, wi_bipush, wi_icmp_ne, fldv_8_20, fds_8_20, wi_invokevirtual, no0, no1, nz1, nz2, nz3, nz4, nz5, nz7, nz8, Classical.not_not, bz0, bz1, wi_nil, ld_0, ld_s, isIv_I, isLv_L, isRv_R, true_and, and_true, lset_0, lset_1, lset_s, avw_I, avw_L, avw_R, clr_cons, clr_nil, kst_0, kst_1, kstL_0, kstL_1, addk_I, pA_0, pA_s, pD_0, pD_s, wid_nil, wid_cons, rcv_c, putv_I, putv_L, List.length_cons, List.length_nil, List.set_cons_zero, List.set_cons_succ, not_false_eq_true, Nat.reduceMod, Nat.reduceDiv, Nat.reduceEqDiff, Nat.reduceLT, Nat.reduceLeDiff, Nat.reduceAdd, Nat.reduceSub, reduceIte, Nat.lt_irrefl, Nat.zero_ne_one, Nat.one_ne_zero, Nat.zero_add, List.nil_append, List.cons_append, Option.toList_some, Option.toList_none, forall_const, false_implies, true_implies, false_or, or_false, true_or, or_true, i_le, i_lt, i_eq, i_eq0, i_lt0, i_0le, i_0lt, i_le0, i_in1, i_cl, nI_add, pk_mul, pk_sub, i_div, i_rem, i_sh1, i_bit, i_or, i_and, i_andn, nt_le, nf_le, nt_lt, nf_lt, nt_eq, nf_eq, not_true_eq_false, and_self, and_false, false_and, eq_self, Bool.toNat_true, Bool.toNat_false, i_bool, i_bool1, Bool.false_eq_true, Bool.true_eq_false, reduceCtorEq, i_neg1, i_neg2, i_neg3, i_neg4, i_neg5, i_neg6, i_neg7, i_neg8, i_neg9, i_nega, i_negb, i_negc, i_max2, i_min2, (m_n hm)]
            try simp (disch := omega) only [no0, no1, nz1, nz2, nz3, nz4, nz5, nz7, nz8, Classical.not_not, bz0, bz1, wi_nil, ld_0, ld_s, isIv_I, isLv_L, isRv_R, true_and, and_true, lset_0, lset_1, lset_s, avw_I, avw_L, avw_R, clr_cons, clr_nil, kst_0, kst_1, kstL_0, kstL_1, addk_I, pA_0, pA_s, pD_0, pD_s, wid_nil, wid_cons, rcv_c, putv_I, putv_L, List.length_cons, List.length_nil, List.set_cons_zero, List.set_cons_succ, not_false_eq_true, Nat.reduceMod, Nat.reduceDiv, Nat.reduceEqDiff, Nat.reduceLT, Nat.reduceLeDiff, Nat.reduceAdd, Nat.reduceSub, reduceIte, Nat.lt_irrefl, Nat.zero_ne_one, Nat.one_ne_zero, Nat.zero_add, List.nil_append, List.cons_append, Option.toList_some, Option.toList_none, forall_const, false_implies, true_implies, false_or, or_false, true_or, or_true, i_le, i_lt, i_eq, i_eq0, i_lt0, i_0le, i_0lt, i_le0, i_in1, i_cl, nI_add, pk_mul, pk_sub, i_div, i_rem, i_sh1, i_bit, i_or, i_and, i_andn, nt_le, nf_le, nt_lt, nf_lt, nt_eq, nf_eq, not_true_eq_false, and_self, and_false, false_and, eq_self, Bool.toNat_true, Bool.toNat_false, i_bool, i_bool1, Bool.false_eq_true, Bool.true_eq_false, reduceCtorEq, i_neg1, i_neg2, i_neg3, i_neg4, i_neg5, i_neg6, i_neg7, i_neg8, i_neg9, i_nega, i_negb, i_negc, i_max2, i_min2, (m_kind hm), wi_nil]
            repeat (
              first
              | refine s_X9_counted_0 ?_
              | refine s_X9_counted_27 ?_
              | refine s_X9_counted_31 ?_
              | refine s_X9_counted_45 ?_
              | refine s_X9_counted_46 ?_
              | refine s_X9_counted_75 ?_
              | refine s_X9_counted_79 ?_
              | refine s_X9_counted_80 ?_
              | refine s_X9_counted_88 ?_
              | refine s_X9_counted_116 ?_
              | refine s_X9_counted_117 ?_
              | refine s_X9_counted_125 ?_
              | refine s_X9_counted_152 ?_
              | refine s_X9_counted_153 ?_
              | refine s_X9_counted_161 ?_
              | refine s_X9_counted_188 ?_
              | refine s_X9_counted_189 ?_
              | refine s_X9_counted_197 ?_
              | refine s_X9_counted_236 ?_
              | refine s_X9_counted_241 ?_
              | refine s_X9_counted_248 ?_
              | refine s_X9_counted_253 ?_
              | refine s_X9_counted_260 ?_
              | refine s_X9_counted_267 ?_
              | refine s_X9_counted_275 ?_
              | refine s_X9_counted_276 ?_
              simp (disch := omega) only [B_X9_counted_0, wi_iconst, wi_istore_n, B_X9_counted_4, wi_iload_n, wi_aload_n, wi_getfield, fldv_8_10, fds_8_10, cnt_8, wi_icmp_ge, wi_bipush, wi_icmp_ne, fldv_8_20, fds_8_20, wi_invokevirtual, B_X9_counted_27, wi_invokestatic, B_X9_counted_31, wi_if_eq, wi_iadd, wi_iaload, wi_goto, cnt_31, aTy_31, aLn_31, arr_31, cnt_34, aTy_34, aLn_34, arr_34, cnt_36, aTy_36, aLn_36, arr_36, cnt_40, aTy_40, aLn_40, arr_40, cnt_43, aTy_43, aLn_43, arr_43, bsv_43, B_X9_counted_45, B_X9_counted_46, fldv_8_11, fds_8_11, wi_icmp_eq, B_X9_counted_75, B_X9_counted_79, B_X9_counted_80, wi_iinc, B_X9_counted_88, B_X9_counted_90, fldv_8_5, fds_8_5, wi_if_lt, B_X9_counted_116, B_X9_counted_117, B_X9_counted_125, B_X9_counted_127, fldv_8_8, fds_8_8, B_X9_counted_152, B_X9_counted_153, B_X9_counted_161, B_X9_counted_163, fldv_8_24, fds_8_24, wi_baload, B_X9_counted_188, B_X9_counted_189, B_X9_counted_197, wi_tsw, B_X9_counted_236, wi_ireturn, B_X9_counted_241, B_X9_counted_248, fldv_8_22, fds_8_22, B_X9_counted_253, B_X9_counted_260, B_X9_counted_267, B_X9_counted_275, B_X9_counted_276, no0, no1, nz1, nz2, nz3, nz4, nz5, nz7, nz8, Classical.not_not, bz0, bz1, wi_nil, ld_0, ld_s, isIv_I, isLv_L, isRv_R, true_and, and_true, lset_0, lset_1, lset_s, avw_I, avw_L, avw_R, clr_cons, clr_nil, kst_0, kst_1, kstL_0, kstL_1, addk_I, pA_0, pA_s, pD_0, pD_s, wid_nil, wid_cons, rcv_c, putv_I, putv_L, List.length_cons, List.length_nil, List.set_cons_zero, List.set_cons_succ, not_false_eq_true, Nat.reduceMod, Nat.reduceDiv, Nat.reduceEqDiff, Nat.reduceLT, Nat.reduceLeDiff, Nat.reduceAdd, Nat.reduceSub, reduceIte, Nat.lt_irrefl, Nat.zero_ne_one, Nat.one_ne_zero, Nat.zero_add, List.nil_append, List.cons_append, Option.toList_some, Option.toList_none, forall_const, false_implies, true_implies, false_or, or_false, true_or, or_true, i_le, i_lt, i_eq, i_eq0, i_lt0, i_0le, i_0lt, i_le0, i_in1, i_cl, nI_add, pk_mul, pk_sub, i_div, i_rem, i_sh1, i_bit, i_or, i_and, i_andn, nt_le, nf_le, nt_lt, nf_lt, nt_eq, nf_eq, not_true_eq_false, and_self, and_false, false_and, eq_self, Bool.toNat_true, Bool.toNat_false, i_bool, i_bool1, Bool.false_eq_true, Bool.true_eq_false, reduceCtorEq, i_neg1, i_neg2, i_neg3, i_neg4, i_neg5, i_neg6, i_neg7, i_neg8, i_neg9, i_nega, i_negb, i_negc, i_max2, i_min2, (m_kind hm)])
            exact hnx
      · rw [if_neg h7] at hnx
        refine s_X9_counted_4 ?_
        simp (disch := omega) only [B_X9_counted_4, wi_iload_n, wi_aload_n, wi_getfield, fldv_8_10, fds_8_10, cnt_8, wi_icmp_ge, wi_bipush, wi_icmp_ne, fldv_8_20, fds_8_20, wi_invokevirtual, no0, no1, nz1, nz2, nz3, nz4, nz5, nz7, nz8, Classical.not_not, bz0, bz1, wi_nil, ld_0, ld_s, isIv_I, isLv_L, isRv_R, true_and, and_true, lset_0, lset_1, lset_s, avw_I, avw_L, avw_R, clr_cons, clr_nil, kst_0, kst_1, kstL_0, kstL_1, addk_I, pA_0, pA_s, pD_0, pD_s, wid_nil, wid_cons, rcv_c, putv_I, putv_L, List.length_cons, List.length_nil, List.set_cons_zero, List.set_cons_succ, not_false_eq_true, Nat.reduceMod, Nat.reduceDiv, Nat.reduceEqDiff, Nat.reduceLT, Nat.reduceLeDiff, Nat.reduceAdd, Nat.reduceSub, reduceIte, Nat.lt_irrefl, Nat.zero_ne_one, Nat.one_ne_zero, Nat.zero_add, List.nil_append, List.cons_append, Option.toList_some, Option.toList_none, forall_const, false_implies, true_implies, false_or, or_false, true_or, or_true, i_le, i_lt, i_eq, i_eq0, i_lt0, i_0le, i_0lt, i_le0, i_in1, i_cl, nI_add, pk_mul, pk_sub, i_div, i_rem, i_sh1, i_bit, i_or, i_and, i_andn, nt_le, nf_le, nt_lt, nf_lt, nt_eq, nf_eq, not_true_eq_false, and_self, and_false, false_and, eq_self, Bool.toNat_true, Bool.toNat_false, i_bool, i_bool1, Bool.false_eq_true, Bool.true_eq_false, reduceCtorEq, i_neg1, i_neg2, i_neg3, i_neg4, i_neg5, i_neg6, i_neg7, i_neg8, i_neg9, i_nega, i_negb, i_negc, i_max2, i_min2, (m_n hm)]
        try simp (disch := omega) only [no0, no1, nz1, nz2, nz3, nz4, nz5, nz7, nz8, Classical.not_not, bz0, bz1, wi_nil, ld_0, ld_s, isIv_I, isLv_L, isRv_R, true_and, and_true, lset_0, lset_1, lset_s, avw_I, avw_L, avw_R, clr_cons, clr_nil, kst_0, kst_1, kstL_0, kstL_1, addk_I, pA_0, pA_s, pD_0, pD_s, wid_nil, wid_cons, rcv_c, putv_I, putv_L, List.length_cons, List.length_nil, List.set_cons_zero, List.set_cons_succ, not_false_eq_true, Nat.reduceMod, Nat.reduceDiv, Nat.reduceEqDiff, Nat.reduceLT, Nat.reduceLeDiff, Nat.reduceAdd, Nat.reduceSub, reduceIte, Nat.lt_irrefl, Nat.zero_ne_one, Nat.one_ne_zero, Nat.zero_add, List.nil_append, List.cons_append, Option.toList_some, Option.toList_none, forall_const, false_implies, true_implies, false_or, or_false, true_or, or_true, i_le, i_lt, i_eq, i_eq0, i_lt0, i_0le, i_0lt, i_le0, i_in1, i_cl, nI_add, pk_mul, pk_sub, i_div, i_rem, i_sh1, i_bit, i_or, i_and, i_andn, nt_le, nf_le, nt_lt, nf_lt, nt_eq, nf_eq, not_true_eq_false, and_self, and_false, false_and, eq_self, Bool.toNat_true, Bool.toNat_false, i_bool, i_bool1, Bool.false_eq_true, Bool.true_eq_false, reduceCtorEq, i_neg1, i_neg2, i_neg3, i_neg4, i_neg5, i_neg6, i_neg7, i_neg8, i_neg9, i_nega, i_negb, i_negc, i_max2, i_min2, wi_nil]
        repeat (
          first
          | refine s_X9_counted_0 ?_
          | refine s_X9_counted_27 ?_
          | refine s_X9_counted_31 ?_
          | refine s_X9_counted_45 ?_
          | refine s_X9_counted_46 ?_
          | refine s_X9_counted_75 ?_
          | refine s_X9_counted_79 ?_
          | refine s_X9_counted_80 ?_
          | refine s_X9_counted_88 ?_
          | refine s_X9_counted_116 ?_
          | refine s_X9_counted_117 ?_
          | refine s_X9_counted_125 ?_
          | refine s_X9_counted_152 ?_
          | refine s_X9_counted_153 ?_
          | refine s_X9_counted_161 ?_
          | refine s_X9_counted_188 ?_
          | refine s_X9_counted_189 ?_
          | refine s_X9_counted_197 ?_
          | refine s_X9_counted_236 ?_
          | refine s_X9_counted_241 ?_
          | refine s_X9_counted_248 ?_
          | refine s_X9_counted_253 ?_
          | refine s_X9_counted_260 ?_
          | refine s_X9_counted_267 ?_
          | refine s_X9_counted_275 ?_
          | refine s_X9_counted_276 ?_
          simp (disch := omega) only [B_X9_counted_0, wi_iconst, wi_istore_n, B_X9_counted_4, wi_iload_n, wi_aload_n, wi_getfield, fldv_8_10, fds_8_10, cnt_8, wi_icmp_ge, wi_bipush, wi_icmp_ne, fldv_8_20, fds_8_20, wi_invokevirtual, B_X9_counted_27, wi_invokestatic, B_X9_counted_31, wi_if_eq, wi_iadd, wi_iaload, wi_goto, cnt_31, aTy_31, aLn_31, arr_31, cnt_34, aTy_34, aLn_34, arr_34, cnt_36, aTy_36, aLn_36, arr_36, cnt_40, aTy_40, aLn_40, arr_40, cnt_43, aTy_43, aLn_43, arr_43, bsv_43, B_X9_counted_45, B_X9_counted_46, fldv_8_11, fds_8_11, wi_icmp_eq, B_X9_counted_75, B_X9_counted_79, B_X9_counted_80, wi_iinc, B_X9_counted_88, B_X9_counted_90, fldv_8_5, fds_8_5, wi_if_lt, B_X9_counted_116, B_X9_counted_117, B_X9_counted_125, B_X9_counted_127, fldv_8_8, fds_8_8, B_X9_counted_152, B_X9_counted_153, B_X9_counted_161, B_X9_counted_163, fldv_8_24, fds_8_24, wi_baload, B_X9_counted_188, B_X9_counted_189, B_X9_counted_197, wi_tsw, B_X9_counted_236, wi_ireturn, B_X9_counted_241, B_X9_counted_248, fldv_8_22, fds_8_22, B_X9_counted_253, B_X9_counted_260, B_X9_counted_267, B_X9_counted_275, B_X9_counted_276, no0, no1, nz1, nz2, nz3, nz4, nz5, nz7, nz8, Classical.not_not, bz0, bz1, wi_nil, ld_0, ld_s, isIv_I, isLv_L, isRv_R, true_and, and_true, lset_0, lset_1, lset_s, avw_I, avw_L, avw_R, clr_cons, clr_nil, kst_0, kst_1, kstL_0, kstL_1, addk_I, pA_0, pA_s, pD_0, pD_s, wid_nil, wid_cons, rcv_c, putv_I, putv_L, List.length_cons, List.length_nil, List.set_cons_zero, List.set_cons_succ, not_false_eq_true, Nat.reduceMod, Nat.reduceDiv, Nat.reduceEqDiff, Nat.reduceLT, Nat.reduceLeDiff, Nat.reduceAdd, Nat.reduceSub, reduceIte, Nat.lt_irrefl, Nat.zero_ne_one, Nat.one_ne_zero, Nat.zero_add, List.nil_append, List.cons_append, Option.toList_some, Option.toList_none, forall_const, false_implies, true_implies, false_or, or_false, true_or, or_true, i_le, i_lt, i_eq, i_eq0, i_lt0, i_0le, i_0lt, i_le0, i_in1, i_cl, nI_add, pk_mul, pk_sub, i_div, i_rem, i_sh1, i_bit, i_or, i_and, i_andn, nt_le, nf_le, nt_lt, nf_lt, nt_eq, nf_eq, not_true_eq_false, and_self, and_false, false_and, eq_self, Bool.toNat_true, Bool.toNat_false, i_bool, i_bool1, Bool.false_eq_true, Bool.true_eq_false, reduceCtorEq, i_neg1, i_neg2, i_neg3, i_neg4, i_neg5, i_neg6, i_neg7, i_neg8, i_neg9, i_nega, i_negb, i_negc, i_max2, i_min2])
        exact hnx
theorem l_mc2 {w A : Nat} (hw : w < 11) (hA : A ≤ 100) (ht : Tb S 31 32 6 40 rs rc) (q : wpX (d + 1) mX9_counted 125 [aR 8 0, aI (nI w), aI (nI (A + fb_sm (ifw w 8 rs) 6)), aU] [] S P) : ∀ (m i : Nat), i + m = 6 → wpX (d + 1) mX9_counted 90 [aR 8 0, aI (nI w), aI (nI (A + fb_sm (ifw w 8 rs) i)), aI (nI i)] [] S P := by
  intro m
  induction m with
  | zero =>
    intro i hi
    have e : i = 6 := by omega
    subst e
    refine s_X9_counted_90 ?_
    simp (disch := omega) only [B_X9_counted_90, wi_iload_n, wi_bipush, wi_icmp_ge, wi_icmp_ne, wi_aload_n, wi_getfield, fldv_8_5, fds_8_5, cnt_8, wi_iaload, wi_if_lt, wi_iconst, wi_goto, cnt_31, aTy_31, aLn_31, arr_31, cnt_34, aTy_34, aLn_34, arr_34, cnt_36, aTy_36, aLn_36, arr_36, cnt_40, aTy_40, aLn_40, arr_40, cnt_43, aTy_43, aLn_43, arr_43, bsv_43, no0, no1, nz1, nz2, nz3, nz4, nz5, nz7, nz8, Classical.not_not, bz0, bz1, wi_nil, ld_0, ld_s, isIv_I, isLv_L, isRv_R, true_and, and_true, lset_0, lset_1, lset_s, avw_I, avw_L, avw_R, clr_cons, clr_nil, kst_0, kst_1, kstL_0, kstL_1, addk_I, pA_0, pA_s, pD_0, pD_s, wid_nil, wid_cons, rcv_c, putv_I, putv_L, List.length_cons, List.length_nil, List.set_cons_zero, List.set_cons_succ, not_false_eq_true, Nat.reduceMod, Nat.reduceDiv, Nat.reduceEqDiff, Nat.reduceLT, Nat.reduceLeDiff, Nat.reduceAdd, Nat.reduceSub, reduceIte, Nat.lt_irrefl, Nat.zero_ne_one, Nat.one_ne_zero, Nat.zero_add, List.nil_append, List.cons_append, Option.toList_some, Option.toList_none, forall_const, false_implies, true_implies, false_or, or_false, true_or, or_true, i_le, i_lt, i_eq, i_eq0, i_lt0, i_0le, i_0lt, i_le0, i_in1, i_cl, nI_add, pk_mul, pk_sub, i_div, i_rem, i_sh1, i_bit, i_or, i_and, i_andn, nt_le, nf_le, nt_lt, nf_lt, nt_eq, nf_eq, not_true_eq_false, and_self, and_false, false_and, eq_self, Bool.toNat_true, Bool.toNat_false, i_bool, i_bool1, Bool.false_eq_true, Bool.true_eq_false, reduceCtorEq, i_neg1, i_neg2, i_neg3, i_neg4, i_neg5, i_neg6, i_neg7, i_neg8, i_neg9, i_nega, i_negb, i_negc, i_max2, i_min2]
    exact q
  | succ m ih =>
    intro i hi
    have hle := ifw_le (w := w) (v := 8) (rs := rs) (n := i)
    have hz := (ht i (by omega)).1
    have hz2 := (ht i (by omega)).2.1
    have hnx := ih (i + 1) (by omega)
    rw [fb_sm_succ, ← Nat.add_assoc] at hnx
    by_cases h8 : w = 8
    · subst h8
      by_cases c : rs i = 0
      · rw [show ifw 8 8 rs i = 0 by unfold ifw; rw [if_pos rfl, if_pos c]] at hnx
        rw [c, sz_0] at hz
        refine s_X9_counted_90 ?_
        simp (disch := omega) only [B_X9_counted_90, wi_iload_n, wi_bipush, wi_icmp_ge, wi_icmp_ne, wi_aload_n, wi_getfield, fldv_8_5, fds_8_5, cnt_8, wi_iaload, wi_if_lt, wi_iconst, wi_goto, cnt_31, aTy_31, aLn_31, arr_31, cnt_34, aTy_34, aLn_34, arr_34, cnt_36, aTy_36, aLn_36, arr_36, cnt_40, aTy_40, aLn_40, arr_40, cnt_43, aTy_43, aLn_43, arr_43, bsv_43, no0, no1, nz1, nz2, nz3, nz4, nz5, nz7, nz8, Classical.not_not, bz0, bz1, wi_nil, ld_0, ld_s, isIv_I, isLv_L, isRv_R, true_and, and_true, lset_0, lset_1, lset_s, avw_I, avw_L, avw_R, clr_cons, clr_nil, kst_0, kst_1, kstL_0, kstL_1, addk_I, pA_0, pA_s, pD_0, pD_s, wid_nil, wid_cons, rcv_c, putv_I, putv_L, List.length_cons, List.length_nil, List.set_cons_zero, List.set_cons_succ, not_false_eq_true, Nat.reduceMod, Nat.reduceDiv, Nat.reduceEqDiff, Nat.reduceLT, Nat.reduceLeDiff, Nat.reduceAdd, Nat.reduceSub, reduceIte, Nat.lt_irrefl, Nat.zero_ne_one, Nat.one_ne_zero, Nat.zero_add, List.nil_append, List.cons_append, Option.toList_some, Option.toList_none, forall_const, false_implies, true_implies, false_or, or_false, true_or, or_true, i_le, i_lt, i_eq, i_eq0, i_lt0, i_0le, i_0lt, i_le0, i_in1, i_cl, nI_add, pk_mul, pk_sub, i_div, i_rem, i_sh1, i_bit, i_or, i_and, i_andn, nt_le, nf_le, nt_lt, nf_lt, nt_eq, nf_eq, not_true_eq_false, and_self, and_false, false_and, eq_self, Bool.toNat_true, Bool.toNat_false, i_bool, i_bool1, Bool.false_eq_true, Bool.true_eq_false, reduceCtorEq, i_neg1, i_neg2, i_neg3, i_neg4, i_neg5, i_neg6, i_neg7, i_neg8, i_neg9, i_nega, i_negb, i_negc, i_max2, i_min2]
        try simp (disch := omega) only [no0, no1, nz1, nz2, nz3, nz4, nz5, nz7, nz8, Classical.not_not, bz0, bz1, wi_nil, ld_0, ld_s, isIv_I, isLv_L, isRv_R, true_and, and_true, lset_0, lset_1, lset_s, avw_I, avw_L, avw_R, clr_cons, clr_nil, kst_0, kst_1, kstL_0, kstL_1, addk_I, pA_0, pA_s, pD_0, pD_s, wid_nil, wid_cons, rcv_c, putv_I, putv_L, List.length_cons, List.length_nil, List.set_cons_zero, List.set_cons_succ, not_false_eq_true, Nat.reduceMod, Nat.reduceDiv, Nat.reduceEqDiff, Nat.reduceLT, Nat.reduceLeDiff, Nat.reduceAdd, Nat.reduceSub, reduceIte, Nat.lt_irrefl, Nat.zero_ne_one, Nat.one_ne_zero, Nat.zero_add, List.nil_append, List.cons_append, Option.toList_some, Option.toList_none, forall_const, false_implies, true_implies, false_or, or_false, true_or, or_true, i_le, i_lt, i_eq, i_eq0, i_lt0, i_0le, i_0lt, i_le0, i_in1, i_cl, nI_add, pk_mul, pk_sub, i_div, i_rem, i_sh1, i_bit, i_or, i_and, i_andn, nt_le, nf_le, nt_lt, nf_lt, nt_eq, nf_eq, not_true_eq_false, and_self, and_false, false_and, eq_self, Bool.toNat_true, Bool.toNat_false, i_bool, i_bool1, Bool.false_eq_true, Bool.true_eq_false, reduceCtorEq, i_neg1, i_neg2, i_neg3, i_neg4, i_neg5, i_neg6, i_neg7, i_neg8, i_neg9, i_nega, i_negb, i_negc, i_max2, i_min2, hz, wi_nil]
        repeat (
          first
          | refine s_X9_counted_0 ?_
          | refine s_X9_counted_27 ?_
          | refine s_X9_counted_31 ?_
          | refine s_X9_counted_45 ?_
          | refine s_X9_counted_46 ?_
          | refine s_X9_counted_75 ?_
          | refine s_X9_counted_79 ?_
          | refine s_X9_counted_80 ?_
          | refine s_X9_counted_88 ?_
          | refine s_X9_counted_116 ?_
          | refine s_X9_counted_117 ?_
          | refine s_X9_counted_125 ?_
          | refine s_X9_counted_152 ?_
          | refine s_X9_counted_153 ?_
          | refine s_X9_counted_161 ?_
          | refine s_X9_counted_188 ?_
          | refine s_X9_counted_189 ?_
          | refine s_X9_counted_197 ?_
          | refine s_X9_counted_236 ?_
          | refine s_X9_counted_241 ?_
          | refine s_X9_counted_248 ?_
          | refine s_X9_counted_253 ?_
          | refine s_X9_counted_260 ?_
          | refine s_X9_counted_267 ?_
          | refine s_X9_counted_275 ?_
          | refine s_X9_counted_276 ?_
          simp (disch := omega) only [B_X9_counted_0, wi_iconst, wi_istore_n, B_X9_counted_4, wi_iload_n, wi_aload_n, wi_getfield, fldv_8_10, fds_8_10, cnt_8, wi_icmp_ge, wi_bipush, wi_icmp_ne, fldv_8_20, fds_8_20, wi_invokevirtual, B_X9_counted_27, wi_invokestatic, B_X9_counted_31, wi_if_eq, wi_iadd, wi_iaload, wi_goto, cnt_31, aTy_31, aLn_31, arr_31, cnt_34, aTy_34, aLn_34, arr_34, cnt_36, aTy_36, aLn_36, arr_36, cnt_40, aTy_40, aLn_40, arr_40, cnt_43, aTy_43, aLn_43, arr_43, bsv_43, B_X9_counted_45, B_X9_counted_46, fldv_8_11, fds_8_11, wi_icmp_eq, B_X9_counted_75, B_X9_counted_79, B_X9_counted_80, wi_iinc, B_X9_counted_88, B_X9_counted_90, fldv_8_5, fds_8_5, wi_if_lt, B_X9_counted_116, B_X9_counted_117, B_X9_counted_125, B_X9_counted_127, fldv_8_8, fds_8_8, B_X9_counted_152, B_X9_counted_153, B_X9_counted_161, B_X9_counted_163, fldv_8_24, fds_8_24, wi_baload, B_X9_counted_188, B_X9_counted_189, B_X9_counted_197, wi_tsw, B_X9_counted_236, wi_ireturn, B_X9_counted_241, B_X9_counted_248, fldv_8_22, fds_8_22, B_X9_counted_253, B_X9_counted_260, B_X9_counted_267, B_X9_counted_275, B_X9_counted_276, no0, no1, nz1, nz2, nz3, nz4, nz5, nz7, nz8, Classical.not_not, bz0, bz1, wi_nil, ld_0, ld_s, isIv_I, isLv_L, isRv_R, true_and, and_true, lset_0, lset_1, lset_s, avw_I, avw_L, avw_R, clr_cons, clr_nil, kst_0, kst_1, kstL_0, kstL_1, addk_I, pA_0, pA_s, pD_0, pD_s, wid_nil, wid_cons, rcv_c, putv_I, putv_L, List.length_cons, List.length_nil, List.set_cons_zero, List.set_cons_succ, not_false_eq_true, Nat.reduceMod, Nat.reduceDiv, Nat.reduceEqDiff, Nat.reduceLT, Nat.reduceLeDiff, Nat.reduceAdd, Nat.reduceSub, reduceIte, Nat.lt_irrefl, Nat.zero_ne_one, Nat.one_ne_zero, Nat.zero_add, List.nil_append, List.cons_append, Option.toList_some, Option.toList_none, forall_const, false_implies, true_implies, false_or, or_false, true_or, or_true, i_le, i_lt, i_eq, i_eq0, i_lt0, i_0le, i_0lt, i_le0, i_in1, i_cl, nI_add, pk_mul, pk_sub, i_div, i_rem, i_sh1, i_bit, i_or, i_and, i_andn, nt_le, nf_le, nt_lt, nf_lt, nt_eq, nf_eq, not_true_eq_false, and_self, and_false, false_and, eq_self, Bool.toNat_true, Bool.toNat_false, i_bool, i_bool1, Bool.false_eq_true, Bool.true_eq_false, reduceCtorEq, i_neg1, i_neg2, i_neg3, i_neg4, i_neg5, i_neg6, i_neg7, i_neg8, i_neg9, i_nega, i_negb, i_negc, i_max2, i_min2, hz])
        exact hnx
      · rw [show ifw 8 8 rs i = 1 by unfold ifw; rw [if_pos rfl, if_neg c]] at hnx
        rw [sz_pos c] at hz
        refine s_X9_counted_90 ?_
        simp (disch := omega) only [B_X9_counted_90, wi_iload_n, wi_bipush, wi_icmp_ge, wi_icmp_ne, wi_aload_n, wi_getfield, fldv_8_5, fds_8_5, cnt_8, wi_iaload, wi_if_lt, wi_iconst, wi_goto, cnt_31, aTy_31, aLn_31, arr_31, cnt_34, aTy_34, aLn_34, arr_34, cnt_36, aTy_36, aLn_36, arr_36, cnt_40, aTy_40, aLn_40, arr_40, cnt_43, aTy_43, aLn_43, arr_43, bsv_43, no0, no1, nz1, nz2, nz3, nz4, nz5, nz7, nz8, Classical.not_not, bz0, bz1, wi_nil, ld_0, ld_s, isIv_I, isLv_L, isRv_R, true_and, and_true, lset_0, lset_1, lset_s, avw_I, avw_L, avw_R, clr_cons, clr_nil, kst_0, kst_1, kstL_0, kstL_1, addk_I, pA_0, pA_s, pD_0, pD_s, wid_nil, wid_cons, rcv_c, putv_I, putv_L, List.length_cons, List.length_nil, List.set_cons_zero, List.set_cons_succ, not_false_eq_true, Nat.reduceMod, Nat.reduceDiv, Nat.reduceEqDiff, Nat.reduceLT, Nat.reduceLeDiff, Nat.reduceAdd, Nat.reduceSub, reduceIte, Nat.lt_irrefl, Nat.zero_ne_one, Nat.one_ne_zero, Nat.zero_add, List.nil_append, List.cons_append, Option.toList_some, Option.toList_none, forall_const, false_implies, true_implies, false_or, or_false, true_or, or_true, i_le, i_lt, i_eq, i_eq0, i_lt0, i_0le, i_0lt, i_le0, i_in1, i_cl, nI_add, pk_mul, pk_sub, i_div, i_rem, i_sh1, i_bit, i_or, i_and, i_andn, nt_le, nf_le, nt_lt, nf_lt, nt_eq, nf_eq, not_true_eq_false, and_self, and_false, false_and, eq_self, Bool.toNat_true, Bool.toNat_false, i_bool, i_bool1, Bool.false_eq_true, Bool.true_eq_false, reduceCtorEq, i_neg1, i_neg2, i_neg3, i_neg4, i_neg5, i_neg6, i_neg7, i_neg8, i_neg9, i_nega, i_negb, i_negc, i_max2, i_min2]
        try simp (disch := omega) only [no0, no1, nz1, nz2, nz3, nz4, nz5, nz7, nz8, Classical.not_not, bz0, bz1, wi_nil, ld_0, ld_s, isIv_I, isLv_L, isRv_R, true_and, and_true, lset_0, lset_1, lset_s, avw_I, avw_L, avw_R, clr_cons, clr_nil, kst_0, kst_1, kstL_0, kstL_1, addk_I, pA_0, pA_s, pD_0, pD_s, wid_nil, wid_cons, rcv_c, putv_I, putv_L, List.length_cons, List.length_nil, List.set_cons_zero, List.set_cons_succ, not_false_eq_true, Nat.reduceMod, Nat.reduceDiv, Nat.reduceEqDiff, Nat.reduceLT, Nat.reduceLeDiff, Nat.reduceAdd, Nat.reduceSub, reduceIte, Nat.lt_irrefl, Nat.zero_ne_one, Nat.one_ne_zero, Nat.zero_add, List.nil_append, List.cons_append, Option.toList_some, Option.toList_none, forall_const, false_implies, true_implies, false_or, or_false, true_or, or_true, i_le, i_lt, i_eq, i_eq0, i_lt0, i_0le, i_0lt, i_le0, i_in1, i_cl, nI_add, pk_mul, pk_sub, i_div, i_rem, i_sh1, i_bit, i_or, i_and, i_andn, nt_le, nf_le, nt_lt, nf_lt, nt_eq, nf_eq, not_true_eq_false, and_self, and_false, false_and, eq_self, Bool.toNat_true, Bool.toNat_false, i_bool, i_bool1, Bool.false_eq_true, Bool.true_eq_false, reduceCtorEq, i_neg1, i_neg2, i_neg3, i_neg4, i_neg5, i_neg6, i_neg7, i_neg8, i_neg9, i_nega, i_negb, i_negc, i_max2, i_min2, hz, wi_nil]
        repeat (
          first
          | refine s_X9_counted_0 ?_
          | refine s_X9_counted_27 ?_
          | refine s_X9_counted_31 ?_
          | refine s_X9_counted_45 ?_
          | refine s_X9_counted_46 ?_
          | refine s_X9_counted_75 ?_
          | refine s_X9_counted_79 ?_
          | refine s_X9_counted_80 ?_
          | refine s_X9_counted_88 ?_
          | refine s_X9_counted_116 ?_
          | refine s_X9_counted_117 ?_
          | refine s_X9_counted_125 ?_
          | refine s_X9_counted_152 ?_
          | refine s_X9_counted_153 ?_
          | refine s_X9_counted_161 ?_
          | refine s_X9_counted_188 ?_
          | refine s_X9_counted_189 ?_
          | refine s_X9_counted_197 ?_
          | refine s_X9_counted_236 ?_
          | refine s_X9_counted_241 ?_
          | refine s_X9_counted_248 ?_
          | refine s_X9_counted_253 ?_
          | refine s_X9_counted_260 ?_
          | refine s_X9_counted_267 ?_
          | refine s_X9_counted_275 ?_
          | refine s_X9_counted_276 ?_
          simp (disch := omega) only [B_X9_counted_0, wi_iconst, wi_istore_n, B_X9_counted_4, wi_iload_n, wi_aload_n, wi_getfield, fldv_8_10, fds_8_10, cnt_8, wi_icmp_ge, wi_bipush, wi_icmp_ne, fldv_8_20, fds_8_20, wi_invokevirtual, B_X9_counted_27, wi_invokestatic, B_X9_counted_31, wi_if_eq, wi_iadd, wi_iaload, wi_goto, cnt_31, aTy_31, aLn_31, arr_31, cnt_34, aTy_34, aLn_34, arr_34, cnt_36, aTy_36, aLn_36, arr_36, cnt_40, aTy_40, aLn_40, arr_40, cnt_43, aTy_43, aLn_43, arr_43, bsv_43, B_X9_counted_45, B_X9_counted_46, fldv_8_11, fds_8_11, wi_icmp_eq, B_X9_counted_75, B_X9_counted_79, B_X9_counted_80, wi_iinc, B_X9_counted_88, B_X9_counted_90, fldv_8_5, fds_8_5, wi_if_lt, B_X9_counted_116, B_X9_counted_117, B_X9_counted_125, B_X9_counted_127, fldv_8_8, fds_8_8, B_X9_counted_152, B_X9_counted_153, B_X9_counted_161, B_X9_counted_163, fldv_8_24, fds_8_24, wi_baload, B_X9_counted_188, B_X9_counted_189, B_X9_counted_197, wi_tsw, B_X9_counted_236, wi_ireturn, B_X9_counted_241, B_X9_counted_248, fldv_8_22, fds_8_22, B_X9_counted_253, B_X9_counted_260, B_X9_counted_267, B_X9_counted_275, B_X9_counted_276, no0, no1, nz1, nz2, nz3, nz4, nz5, nz7, nz8, Classical.not_not, bz0, bz1, wi_nil, ld_0, ld_s, isIv_I, isLv_L, isRv_R, true_and, and_true, lset_0, lset_1, lset_s, avw_I, avw_L, avw_R, clr_cons, clr_nil, kst_0, kst_1, kstL_0, kstL_1, addk_I, pA_0, pA_s, pD_0, pD_s, wid_nil, wid_cons, rcv_c, putv_I, putv_L, List.length_cons, List.length_nil, List.set_cons_zero, List.set_cons_succ, not_false_eq_true, Nat.reduceMod, Nat.reduceDiv, Nat.reduceEqDiff, Nat.reduceLT, Nat.reduceLeDiff, Nat.reduceAdd, Nat.reduceSub, reduceIte, Nat.lt_irrefl, Nat.zero_ne_one, Nat.one_ne_zero, Nat.zero_add, List.nil_append, List.cons_append, Option.toList_some, Option.toList_none, forall_const, false_implies, true_implies, false_or, or_false, true_or, or_true, i_le, i_lt, i_eq, i_eq0, i_lt0, i_0le, i_0lt, i_le0, i_in1, i_cl, nI_add, pk_mul, pk_sub, i_div, i_rem, i_sh1, i_bit, i_or, i_and, i_andn, nt_le, nf_le, nt_lt, nf_lt, nt_eq, nf_eq, not_true_eq_false, and_self, and_false, false_and, eq_self, Bool.toNat_true, Bool.toNat_false, i_bool, i_bool1, Bool.false_eq_true, Bool.true_eq_false, reduceCtorEq, i_neg1, i_neg2, i_neg3, i_neg4, i_neg5, i_neg6, i_neg7, i_neg8, i_neg9, i_nega, i_negb, i_negc, i_max2, i_min2, hz])
        exact hnx
    · rw [show ifw w 8 rs i = 0 from if_neg h8] at hnx
      refine s_X9_counted_90 ?_
      simp (disch := omega) only [B_X9_counted_90, wi_iload_n, wi_bipush, wi_icmp_ge, wi_icmp_ne, wi_aload_n, wi_getfield, fldv_8_5, fds_8_5, cnt_8, wi_iaload, wi_if_lt, wi_iconst, wi_goto, cnt_31, aTy_31, aLn_31, arr_31, cnt_34, aTy_34, aLn_34, arr_34, cnt_36, aTy_36, aLn_36, arr_36, cnt_40, aTy_40, aLn_40, arr_40, cnt_43, aTy_43, aLn_43, arr_43, bsv_43, no0, no1, nz1, nz2, nz3, nz4, nz5, nz7, nz8, Classical.not_not, bz0, bz1, wi_nil, ld_0, ld_s, isIv_I, isLv_L, isRv_R, true_and, and_true, lset_0, lset_1, lset_s, avw_I, avw_L, avw_R, clr_cons, clr_nil, kst_0, kst_1, kstL_0, kstL_1, addk_I, pA_0, pA_s, pD_0, pD_s, wid_nil, wid_cons, rcv_c, putv_I, putv_L, List.length_cons, List.length_nil, List.set_cons_zero, List.set_cons_succ, not_false_eq_true, Nat.reduceMod, Nat.reduceDiv, Nat.reduceEqDiff, Nat.reduceLT, Nat.reduceLeDiff, Nat.reduceAdd, Nat.reduceSub, reduceIte, Nat.lt_irrefl, Nat.zero_ne_one, Nat.one_ne_zero, Nat.zero_add, List.nil_append, List.cons_append, Option.toList_some, Option.toList_none, forall_const, false_implies, true_implies, false_or, or_false, true_or, or_true, i_le, i_lt, i_eq, i_eq0, i_lt0, i_0le, i_0lt, i_le0, i_in1, i_cl, nI_add, pk_mul, pk_sub, i_div, i_rem, i_sh1, i_bit, i_or, i_and, i_andn, nt_le, nf_le, nt_lt, nf_lt, nt_eq, nf_eq, not_true_eq_false, and_self, and_false, false_and, eq_self, Bool.toNat_true, Bool.toNat_false, i_bool, i_bool1, Bool.false_eq_true, Bool.true_eq_false, reduceCtorEq, i_neg1, i_neg2, i_neg3, i_neg4, i_neg5, i_neg6, i_neg7, i_neg8, i_neg9, i_nega, i_negb, i_negc, i_max2, i_min2]
      try simp (disch := omega) only [no0, no1, nz1, nz2, nz3, nz4, nz5, nz7, nz8, Classical.not_not, bz0, bz1, wi_nil, ld_0, ld_s, isIv_I, isLv_L, isRv_R, true_and, and_true, lset_0, lset_1, lset_s, avw_I, avw_L, avw_R, clr_cons, clr_nil, kst_0, kst_1, kstL_0, kstL_1, addk_I, pA_0, pA_s, pD_0, pD_s, wid_nil, wid_cons, rcv_c, putv_I, putv_L, List.length_cons, List.length_nil, List.set_cons_zero, List.set_cons_succ, not_false_eq_true, Nat.reduceMod, Nat.reduceDiv, Nat.reduceEqDiff, Nat.reduceLT, Nat.reduceLeDiff, Nat.reduceAdd, Nat.reduceSub, reduceIte, Nat.lt_irrefl, Nat.zero_ne_one, Nat.one_ne_zero, Nat.zero_add, List.nil_append, List.cons_append, Option.toList_some, Option.toList_none, forall_const, false_implies, true_implies, false_or, or_false, true_or, or_true, i_le, i_lt, i_eq, i_eq0, i_lt0, i_0le, i_0lt, i_le0, i_in1, i_cl, nI_add, pk_mul, pk_sub, i_div, i_rem, i_sh1, i_bit, i_or, i_and, i_andn, nt_le, nf_le, nt_lt, nf_lt, nt_eq, nf_eq, not_true_eq_false, and_self, and_false, false_and, eq_self, Bool.toNat_true, Bool.toNat_false, i_bool, i_bool1, Bool.false_eq_true, Bool.true_eq_false, reduceCtorEq, i_neg1, i_neg2, i_neg3, i_neg4, i_neg5, i_neg6, i_neg7, i_neg8, i_neg9, i_nega, i_negb, i_negc, i_max2, i_min2, wi_nil]
      repeat (
        first
        | refine s_X9_counted_0 ?_
        | refine s_X9_counted_27 ?_
        | refine s_X9_counted_31 ?_
        | refine s_X9_counted_45 ?_
        | refine s_X9_counted_46 ?_
        | refine s_X9_counted_75 ?_
        | refine s_X9_counted_79 ?_
        | refine s_X9_counted_80 ?_
        | refine s_X9_counted_88 ?_
        | refine s_X9_counted_116 ?_
        | refine s_X9_counted_117 ?_
        | refine s_X9_counted_125 ?_
        | refine s_X9_counted_152 ?_
        | refine s_X9_counted_153 ?_
        | refine s_X9_counted_161 ?_
        | refine s_X9_counted_188 ?_
        | refine s_X9_counted_189 ?_
        | refine s_X9_counted_197 ?_
        | refine s_X9_counted_236 ?_
        | refine s_X9_counted_241 ?_
        | refine s_X9_counted_248 ?_
        | refine s_X9_counted_253 ?_
        | refine s_X9_counted_260 ?_
        | refine s_X9_counted_267 ?_
        | refine s_X9_counted_275 ?_
        | refine s_X9_counted_276 ?_
        simp (disch := omega) only [B_X9_counted_0, wi_iconst, wi_istore_n, B_X9_counted_4, wi_iload_n, wi_aload_n, wi_getfield, fldv_8_10, fds_8_10, cnt_8, wi_icmp_ge, wi_bipush, wi_icmp_ne, fldv_8_20, fds_8_20, wi_invokevirtual, B_X9_counted_27, wi_invokestatic, B_X9_counted_31, wi_if_eq, wi_iadd, wi_iaload, wi_goto, cnt_31, aTy_31, aLn_31, arr_31, cnt_34, aTy_34, aLn_34, arr_34, cnt_36, aTy_36, aLn_36, arr_36, cnt_40, aTy_40, aLn_40, arr_40, cnt_43, aTy_43, aLn_43, arr_43, bsv_43, B_X9_counted_45, B_X9_counted_46, fldv_8_11, fds_8_11, wi_icmp_eq, B_X9_counted_75, B_X9_counted_79, B_X9_counted_80, wi_iinc, B_X9_counted_88, B_X9_counted_90, fldv_8_5, fds_8_5, wi_if_lt, B_X9_counted_116, B_X9_counted_117, B_X9_counted_125, B_X9_counted_127, fldv_8_8, fds_8_8, B_X9_counted_152, B_X9_counted_153, B_X9_counted_161, B_X9_counted_163, fldv_8_24, fds_8_24, wi_baload, B_X9_counted_188, B_X9_counted_189, B_X9_counted_197, wi_tsw, B_X9_counted_236, wi_ireturn, B_X9_counted_241, B_X9_counted_248, fldv_8_22, fds_8_22, B_X9_counted_253, B_X9_counted_260, B_X9_counted_267, B_X9_counted_275, B_X9_counted_276, no0, no1, nz1, nz2, nz3, nz4, nz5, nz7, nz8, Classical.not_not, bz0, bz1, wi_nil, ld_0, ld_s, isIv_I, isLv_L, isRv_R, true_and, and_true, lset_0, lset_1, lset_s, avw_I, avw_L, avw_R, clr_cons, clr_nil, kst_0, kst_1, kstL_0, kstL_1, addk_I, pA_0, pA_s, pD_0, pD_s, wid_nil, wid_cons, rcv_c, putv_I, putv_L, List.length_cons, List.length_nil, List.set_cons_zero, List.set_cons_succ, not_false_eq_true, Nat.reduceMod, Nat.reduceDiv, Nat.reduceEqDiff, Nat.reduceLT, Nat.reduceLeDiff, Nat.reduceAdd, Nat.reduceSub, reduceIte, Nat.lt_irrefl, Nat.zero_ne_one, Nat.one_ne_zero, Nat.zero_add, List.nil_append, List.cons_append, Option.toList_some, Option.toList_none, forall_const, false_implies, true_implies, false_or, or_false, true_or, or_true, i_le, i_lt, i_eq, i_eq0, i_lt0, i_0le, i_0lt, i_le0, i_in1, i_cl, nI_add, pk_mul, pk_sub, i_div, i_rem, i_sh1, i_bit, i_or, i_and, i_andn, nt_le, nf_le, nt_lt, nf_lt, nt_eq, nf_eq, not_true_eq_false, and_self, and_false, false_and, eq_self, Bool.toNat_true, Bool.toNat_false, i_bool, i_bool1, Bool.false_eq_true, Bool.true_eq_false, reduceCtorEq, i_neg1, i_neg2, i_neg3, i_neg4, i_neg5, i_neg6, i_neg7, i_neg8, i_neg9, i_nega, i_negb, i_negc, i_max2, i_min2])
      exact hnx
theorem l_mc3 {w A : Nat} (hw : w < 11) (hA : A ≤ 200) (ht : Tb S 34 35 4 60 ts tc) (q : wpX (d + 1) mX9_counted 161 [aR 8 0, aI (nI w), aI (nI (A + fb_sm (ifw w 9 ts) 4)), aU] [] S P) : ∀ (m i : Nat), i + m = 4 → wpX (d + 1) mX9_counted 127 [aR 8 0, aI (nI w), aI (nI (A + fb_sm (ifw w 9 ts) i)), aI (nI i)] [] S P := by
  intro m
  induction m with
  | zero =>
    intro i hi
    have e : i = 4 := by omega
    subst e
    refine s_X9_counted_127 ?_
    simp (disch := omega) only [B_X9_counted_127, wi_iload_n, wi_iconst, wi_icmp_ge, wi_bipush, wi_icmp_ne, wi_aload_n, wi_getfield, fldv_8_8, fds_8_8, cnt_8, wi_iaload, wi_if_lt, wi_goto, cnt_31, aTy_31, aLn_31, arr_31, cnt_34, aTy_34, aLn_34, arr_34, cnt_36, aTy_36, aLn_36, arr_36, cnt_40, aTy_40, aLn_40, arr_40, cnt_43, aTy_43, aLn_43, arr_43, bsv_43, no0, no1, nz1, nz2, nz3, nz4, nz5, nz7, nz8, Classical.not_not, bz0, bz1, wi_nil, ld_0, ld_s, isIv_I, isLv_L, isRv_R, true_and, and_true, lset_0, lset_1, lset_s, avw_I, avw_L, avw_R, clr_cons, clr_nil, kst_0, kst_1, kstL_0, kstL_1, addk_I, pA_0, pA_s, pD_0, pD_s, wid_nil, wid_cons, rcv_c, putv_I, putv_L, List.length_cons, List.length_nil, List.set_cons_zero, List.set_cons_succ, not_false_eq_true, Nat.reduceMod, Nat.reduceDiv, Nat.reduceEqDiff, Nat.reduceLT, Nat.reduceLeDiff, Nat.reduceAdd, Nat.reduceSub, reduceIte, Nat.lt_irrefl, Nat.zero_ne_one, Nat.one_ne_zero, Nat.zero_add, List.nil_append, List.cons_append, Option.toList_some, Option.toList_none, forall_const, false_implies, true_implies, false_or, or_false, true_or, or_true, i_le, i_lt, i_eq, i_eq0, i_lt0, i_0le, i_0lt, i_le0, i_in1, i_cl, nI_add, pk_mul, pk_sub, i_div, i_rem, i_sh1, i_bit, i_or, i_and, i_andn, nt_le, nf_le, nt_lt, nf_lt, nt_eq, nf_eq, not_true_eq_false, and_self, and_false, false_and, eq_self, Bool.toNat_true, Bool.toNat_false, i_bool, i_bool1, Bool.false_eq_true, Bool.true_eq_false, reduceCtorEq, i_neg1, i_neg2, i_neg3, i_neg4, i_neg5, i_neg6, i_neg7, i_neg8, i_neg9, i_nega, i_negb, i_negc, i_max2, i_min2]
    exact q
  | succ m ih =>
    intro i hi
    have hle := ifw_le (w := w) (v := 9) (rs := ts) (n := i)
    have hz := (ht i (by omega)).1
    have hz2 := (ht i (by omega)).2.1
    have hnx := ih (i + 1) (by omega)
    rw [fb_sm_succ, ← Nat.add_assoc] at hnx
    by_cases h8 : w = 9
    · subst h8
      by_cases c : ts i = 0
      · rw [show ifw 9 9 ts i = 0 by unfold ifw; rw [if_pos rfl, if_pos c]] at hnx
        rw [c, sz_0] at hz
        refine s_X9_counted_127 ?_
        simp (disch := omega) only [B_X9_counted_127, wi_iload_n, wi_iconst, wi_icmp_ge, wi_bipush, wi_icmp_ne, wi_aload_n, wi_getfield, fldv_8_8, fds_8_8, cnt_8, wi_iaload, wi_if_lt, wi_goto, cnt_31, aTy_31, aLn_31, arr_31, cnt_34, aTy_34, aLn_34, arr_34, cnt_36, aTy_36, aLn_36, arr_36, cnt_40, aTy_40, aLn_40, arr_40, cnt_43, aTy_43, aLn_43, arr_43, bsv_43, no0, no1, nz1, nz2, nz3, nz4, nz5, nz7, nz8, Classical.not_not, bz0, bz1, wi_nil, ld_0, ld_s, isIv_I, isLv_L, isRv_R, true_and, and_true, lset_0, lset_1, lset_s, avw_I, avw_L, avw_R, clr_cons, clr_nil, kst_0, kst_1, kstL_0, kstL_1, addk_I, pA_0, pA_s, pD_0, pD_s, wid_nil, wid_cons, rcv_c, putv_I, putv_L, List.length_cons, List.length_nil, List.set_cons_zero, List.set_cons_succ, not_false_eq_true, Nat.reduceMod, Nat.reduceDiv, Nat.reduceEqDiff, Nat.reduceLT, Nat.reduceLeDiff, Nat.reduceAdd, Nat.reduceSub, reduceIte, Nat.lt_irrefl, Nat.zero_ne_one, Nat.one_ne_zero, Nat.zero_add, List.nil_append, List.cons_append, Option.toList_some, Option.toList_none, forall_const, false_implies, true_implies, false_or, or_false, true_or, or_true, i_le, i_lt, i_eq, i_eq0, i_lt0, i_0le, i_0lt, i_le0, i_in1, i_cl, nI_add, pk_mul, pk_sub, i_div, i_rem, i_sh1, i_bit, i_or, i_and, i_andn, nt_le, nf_le, nt_lt, nf_lt, nt_eq, nf_eq, not_true_eq_false, and_self, and_false, false_and, eq_self, Bool.toNat_true, Bool.toNat_false, i_bool, i_bool1, Bool.false_eq_true, Bool.true_eq_false, reduceCtorEq, i_neg1, i_neg2, i_neg3, i_neg4, i_neg5, i_neg6, i_neg7, i_neg8, i_neg9, i_nega, i_negb, i_negc, i_max2, i_min2]
        try simp (disch := omega) only [no0, no1, nz1, nz2, nz3, nz4, nz5, nz7, nz8, Classical.not_not, bz0, bz1, wi_nil, ld_0, ld_s, isIv_I, isLv_L, isRv_R, true_and, and_true, lset_0, lset_1, lset_s, avw_I, avw_L, avw_R, clr_cons, clr_nil, kst_0, kst_1, kstL_0, kstL_1, addk_I, pA_0, pA_s, pD_0, pD_s, wid_nil, wid_cons, rcv_c, putv_I, putv_L, List.length_cons, List.length_nil, List.set_cons_zero, List.set_cons_succ, not_false_eq_true, Nat.reduceMod, Nat.reduceDiv, Nat.reduceEqDiff, Nat.reduceLT, Nat.reduceLeDiff, Nat.reduceAdd, Nat.reduceSub, reduceIte, Nat.lt_irrefl, Nat.zero_ne_one, Nat.one_ne_zero, Nat.zero_add, List.nil_append, List.cons_append, Option.toList_some, Option.toList_none, forall_const, false_implies, true_implies, false_or, or_false, true_or, or_true, i_le, i_lt, i_eq, i_eq0, i_lt0, i_0le, i_0lt, i_le0, i_in1, i_cl, nI_add, pk_mul, pk_sub, i_div, i_rem, i_sh1, i_bit, i_or, i_and, i_andn, nt_le, nf_le, nt_lt, nf_lt, nt_eq, nf_eq, not_true_eq_false, and_self, and_false, false_and, eq_self, Bool.toNat_true, Bool.toNat_false, i_bool, i_bool1, Bool.false_eq_true, Bool.true_eq_false, reduceCtorEq, i_neg1, i_neg2, i_neg3, i_neg4, i_neg5, i_neg6, i_neg7, i_neg8, i_neg9, i_nega, i_negb, i_negc, i_max2, i_min2, hz, wi_nil]
        repeat (
          first
          | refine s_X9_counted_0 ?_
          | refine s_X9_counted_27 ?_
          | refine s_X9_counted_31 ?_
          | refine s_X9_counted_45 ?_
          | refine s_X9_counted_46 ?_
          | refine s_X9_counted_75 ?_
          | refine s_X9_counted_79 ?_
          | refine s_X9_counted_80 ?_
          | refine s_X9_counted_88 ?_
          | refine s_X9_counted_116 ?_
          | refine s_X9_counted_117 ?_
          | refine s_X9_counted_125 ?_
          | refine s_X9_counted_152 ?_
          | refine s_X9_counted_153 ?_
          | refine s_X9_counted_161 ?_
          | refine s_X9_counted_188 ?_
          | refine s_X9_counted_189 ?_
          | refine s_X9_counted_197 ?_
          | refine s_X9_counted_236 ?_
          | refine s_X9_counted_241 ?_
          | refine s_X9_counted_248 ?_
          | refine s_X9_counted_253 ?_
          | refine s_X9_counted_260 ?_
          | refine s_X9_counted_267 ?_
          | refine s_X9_counted_275 ?_
          | refine s_X9_counted_276 ?_
          simp (disch := omega) only [B_X9_counted_0, wi_iconst, wi_istore_n, B_X9_counted_4, wi_iload_n, wi_aload_n, wi_getfield, fldv_8_10, fds_8_10, cnt_8, wi_icmp_ge, wi_bipush, wi_icmp_ne, fldv_8_20, fds_8_20, wi_invokevirtual, B_X9_counted_27, wi_invokestatic, B_X9_counted_31, wi_if_eq, wi_iadd, wi_iaload, wi_goto, cnt_31, aTy_31, aLn_31, arr_31, cnt_34, aTy_34, aLn_34, arr_34, cnt_36, aTy_36, aLn_36, arr_36, cnt_40, aTy_40, aLn_40, arr_40, cnt_43, aTy_43, aLn_43, arr_43, bsv_43, B_X9_counted_45, B_X9_counted_46, fldv_8_11, fds_8_11, wi_icmp_eq, B_X9_counted_75, B_X9_counted_79, B_X9_counted_80, wi_iinc, B_X9_counted_88, B_X9_counted_90, fldv_8_5, fds_8_5, wi_if_lt, B_X9_counted_116, B_X9_counted_117, B_X9_counted_125, B_X9_counted_127, fldv_8_8, fds_8_8, B_X9_counted_152, B_X9_counted_153, B_X9_counted_161, B_X9_counted_163, fldv_8_24, fds_8_24, wi_baload, B_X9_counted_188, B_X9_counted_189, B_X9_counted_197, wi_tsw, B_X9_counted_236, wi_ireturn, B_X9_counted_241, B_X9_counted_248, fldv_8_22, fds_8_22, B_X9_counted_253, B_X9_counted_260, B_X9_counted_267, B_X9_counted_275, B_X9_counted_276, no0, no1, nz1, nz2, nz3, nz4, nz5, nz7, nz8, Classical.not_not, bz0, bz1, wi_nil, ld_0, ld_s, isIv_I, isLv_L, isRv_R, true_and, and_true, lset_0, lset_1, lset_s, avw_I, avw_L, avw_R, clr_cons, clr_nil, kst_0, kst_1, kstL_0, kstL_1, addk_I, pA_0, pA_s, pD_0, pD_s, wid_nil, wid_cons, rcv_c, putv_I, putv_L, List.length_cons, List.length_nil, List.set_cons_zero, List.set_cons_succ, not_false_eq_true, Nat.reduceMod, Nat.reduceDiv, Nat.reduceEqDiff, Nat.reduceLT, Nat.reduceLeDiff, Nat.reduceAdd, Nat.reduceSub, reduceIte, Nat.lt_irrefl, Nat.zero_ne_one, Nat.one_ne_zero, Nat.zero_add, List.nil_append, List.cons_append, Option.toList_some, Option.toList_none, forall_const, false_implies, true_implies, false_or, or_false, true_or, or_true, i_le, i_lt, i_eq, i_eq0, i_lt0, i_0le, i_0lt, i_le0, i_in1, i_cl, nI_add, pk_mul, pk_sub, i_div, i_rem, i_sh1, i_bit, i_or, i_and, i_andn, nt_le, nf_le, nt_lt, nf_lt, nt_eq, nf_eq, not_true_eq_false, and_self, and_false, false_and, eq_self, Bool.toNat_true, Bool.toNat_false, i_bool, i_bool1, Bool.false_eq_true, Bool.true_eq_false, reduceCtorEq, i_neg1, i_neg2, i_neg3, i_neg4, i_neg5, i_neg6, i_neg7, i_neg8, i_neg9, i_nega, i_negb, i_negc, i_max2, i_min2, hz])
        exact hnx
      · rw [show ifw 9 9 ts i = 1 by unfold ifw; rw [if_pos rfl, if_neg c]] at hnx
        rw [sz_pos c] at hz
        refine s_X9_counted_127 ?_
        simp (disch := omega) only [B_X9_counted_127, wi_iload_n, wi_iconst, wi_icmp_ge, wi_bipush, wi_icmp_ne, wi_aload_n, wi_getfield, fldv_8_8, fds_8_8, cnt_8, wi_iaload, wi_if_lt, wi_goto, cnt_31, aTy_31, aLn_31, arr_31, cnt_34, aTy_34, aLn_34, arr_34, cnt_36, aTy_36, aLn_36, arr_36, cnt_40, aTy_40, aLn_40, arr_40, cnt_43, aTy_43, aLn_43, arr_43, bsv_43, no0, no1, nz1, nz2, nz3, nz4, nz5, nz7, nz8, Classical.not_not, bz0, bz1, wi_nil, ld_0, ld_s, isIv_I, isLv_L, isRv_R, true_and, and_true, lset_0, lset_1, lset_s, avw_I, avw_L, avw_R, clr_cons, clr_nil, kst_0, kst_1, kstL_0, kstL_1, addk_I, pA_0, pA_s, pD_0, pD_s, wid_nil, wid_cons, rcv_c, putv_I, putv_L, List.length_cons, List.length_nil, List.set_cons_zero, List.set_cons_succ, not_false_eq_true, Nat.reduceMod, Nat.reduceDiv, Nat.reduceEqDiff, Nat.reduceLT, Nat.reduceLeDiff, Nat.reduceAdd, Nat.reduceSub, reduceIte, Nat.lt_irrefl, Nat.zero_ne_one, Nat.one_ne_zero, Nat.zero_add, List.nil_append, List.cons_append, Option.toList_some, Option.toList_none, forall_const, false_implies, true_implies, false_or, or_false, true_or, or_true, i_le, i_lt, i_eq, i_eq0, i_lt0, i_0le, i_0lt, i_le0, i_in1, i_cl, nI_add, pk_mul, pk_sub, i_div, i_rem, i_sh1, i_bit, i_or, i_and, i_andn, nt_le, nf_le, nt_lt, nf_lt, nt_eq, nf_eq, not_true_eq_false, and_self, and_false, false_and, eq_self, Bool.toNat_true, Bool.toNat_false, i_bool, i_bool1, Bool.false_eq_true, Bool.true_eq_false, reduceCtorEq, i_neg1, i_neg2, i_neg3, i_neg4, i_neg5, i_neg6, i_neg7, i_neg8, i_neg9, i_nega, i_negb, i_negc, i_max2, i_min2]
        try simp (disch := omega) only [no0, no1, nz1, nz2, nz3, nz4, nz5, nz7, nz8, Classical.not_not, bz0, bz1, wi_nil, ld_0, ld_s, isIv_I, isLv_L, isRv_R, true_and, and_true, lset_0, lset_1, lset_s, avw_I, avw_L, avw_R, clr_cons, clr_nil, kst_0, kst_1, kstL_0, kstL_1, addk_I, pA_0, pA_s, pD_0, pD_s, wid_nil, wid_cons, rcv_c, putv_I, putv_L, List.length_cons, List.length_nil, List.set_cons_zero, List.set_cons_succ, not_false_eq_true, Nat.reduceMod, Nat.reduceDiv, Nat.reduceEqDiff, Nat.reduceLT, Nat.reduceLeDiff, Nat.reduceAdd, Nat.reduceSub, reduceIte, Nat.lt_irrefl, Nat.zero_ne_one, Nat.one_ne_zero, Nat.zero_add, List.nil_append, List.cons_append, Option.toList_some, Option.toList_none, forall_const, false_implies, true_implies, false_or, or_false, true_or, or_true, i_le, i_lt, i_eq, i_eq0, i_lt0, i_0le, i_0lt, i_le0, i_in1, i_cl, nI_add, pk_mul, pk_sub, i_div, i_rem, i_sh1, i_bit, i_or, i_and, i_andn, nt_le, nf_le, nt_lt, nf_lt, nt_eq, nf_eq, not_true_eq_false, and_self, and_false, false_and, eq_self, Bool.toNat_true, Bool.toNat_false, i_bool, i_bool1, Bool.false_eq_true, Bool.true_eq_false, reduceCtorEq, i_neg1, i_neg2, i_neg3, i_neg4, i_neg5, i_neg6, i_neg7, i_neg8, i_neg9, i_nega, i_negb, i_negc, i_max2, i_min2, hz, wi_nil]
        repeat (
          first
          | refine s_X9_counted_0 ?_
          | refine s_X9_counted_27 ?_
          | refine s_X9_counted_31 ?_
          | refine s_X9_counted_45 ?_
          | refine s_X9_counted_46 ?_
          | refine s_X9_counted_75 ?_
          | refine s_X9_counted_79 ?_
          | refine s_X9_counted_80 ?_
          | refine s_X9_counted_88 ?_
          | refine s_X9_counted_116 ?_
          | refine s_X9_counted_117 ?_
          | refine s_X9_counted_125 ?_
          | refine s_X9_counted_152 ?_
          | refine s_X9_counted_153 ?_
          | refine s_X9_counted_161 ?_
          | refine s_X9_counted_188 ?_
          | refine s_X9_counted_189 ?_
          | refine s_X9_counted_197 ?_
          | refine s_X9_counted_236 ?_
          | refine s_X9_counted_241 ?_
          | refine s_X9_counted_248 ?_
          | refine s_X9_counted_253 ?_
          | refine s_X9_counted_260 ?_
          | refine s_X9_counted_267 ?_
          | refine s_X9_counted_275 ?_
          | refine s_X9_counted_276 ?_
          simp (disch := omega) only [B_X9_counted_0, wi_iconst, wi_istore_n, B_X9_counted_4, wi_iload_n, wi_aload_n, wi_getfield, fldv_8_10, fds_8_10, cnt_8, wi_icmp_ge, wi_bipush, wi_icmp_ne, fldv_8_20, fds_8_20, wi_invokevirtual, B_X9_counted_27, wi_invokestatic, B_X9_counted_31, wi_if_eq, wi_iadd, wi_iaload, wi_goto, cnt_31, aTy_31, aLn_31, arr_31, cnt_34, aTy_34, aLn_34, arr_34, cnt_36, aTy_36, aLn_36, arr_36, cnt_40, aTy_40, aLn_40, arr_40, cnt_43, aTy_43, aLn_43, arr_43, bsv_43, B_X9_counted_45, B_X9_counted_46, fldv_8_11, fds_8_11, wi_icmp_eq, B_X9_counted_75, B_X9_counted_79, B_X9_counted_80, wi_iinc, B_X9_counted_88, B_X9_counted_90, fldv_8_5, fds_8_5, wi_if_lt, B_X9_counted_116, B_X9_counted_117, B_X9_counted_125, B_X9_counted_127, fldv_8_8, fds_8_8, B_X9_counted_152, B_X9_counted_153, B_X9_counted_161, B_X9_counted_163, fldv_8_24, fds_8_24, wi_baload, B_X9_counted_188, B_X9_counted_189, B_X9_counted_197, wi_tsw, B_X9_counted_236, wi_ireturn, B_X9_counted_241, B_X9_counted_248, fldv_8_22, fds_8_22, B_X9_counted_253, B_X9_counted_260, B_X9_counted_267, B_X9_counted_275, B_X9_counted_276, no0, no1, nz1, nz2, nz3, nz4, nz5, nz7, nz8, Classical.not_not, bz0, bz1, wi_nil, ld_0, ld_s, isIv_I, isLv_L, isRv_R, true_and, and_true, lset_0, lset_1, lset_s, avw_I, avw_L, avw_R, clr_cons, clr_nil, kst_0, kst_1, kstL_0, kstL_1, addk_I, pA_0, pA_s, pD_0, pD_s, wid_nil, wid_cons, rcv_c, putv_I, putv_L, List.length_cons, List.length_nil, List.set_cons_zero, List.set_cons_succ, not_false_eq_true, Nat.reduceMod, Nat.reduceDiv, Nat.reduceEqDiff, Nat.reduceLT, Nat.reduceLeDiff, Nat.reduceAdd, Nat.reduceSub, reduceIte, Nat.lt_irrefl, Nat.zero_ne_one, Nat.one_ne_zero, Nat.zero_add, List.nil_append, List.cons_append, Option.toList_some, Option.toList_none, forall_const, false_implies, true_implies, false_or, or_false, true_or, or_true, i_le, i_lt, i_eq, i_eq0, i_lt0, i_0le, i_0lt, i_le0, i_in1, i_cl, nI_add, pk_mul, pk_sub, i_div, i_rem, i_sh1, i_bit, i_or, i_and, i_andn, nt_le, nf_le, nt_lt, nf_lt, nt_eq, nf_eq, not_true_eq_false, and_self, and_false, false_and, eq_self, Bool.toNat_true, Bool.toNat_false, i_bool, i_bool1, Bool.false_eq_true, Bool.true_eq_false, reduceCtorEq, i_neg1, i_neg2, i_neg3, i_neg4, i_neg5, i_neg6, i_neg7, i_neg8, i_neg9, i_nega, i_negb, i_negc, i_max2, i_min2, hz])
        exact hnx
    · rw [show ifw w 9 ts i = 0 from if_neg h8] at hnx
      refine s_X9_counted_127 ?_
      simp (disch := omega) only [B_X9_counted_127, wi_iload_n, wi_iconst, wi_icmp_ge, wi_bipush, wi_icmp_ne, wi_aload_n, wi_getfield, fldv_8_8, fds_8_8, cnt_8, wi_iaload, wi_if_lt, wi_goto, cnt_31, aTy_31, aLn_31, arr_31, cnt_34, aTy_34, aLn_34, arr_34, cnt_36, aTy_36, aLn_36, arr_36, cnt_40, aTy_40, aLn_40, arr_40, cnt_43, aTy_43, aLn_43, arr_43, bsv_43, no0, no1, nz1, nz2, nz3, nz4, nz5, nz7, nz8, Classical.not_not, bz0, bz1, wi_nil, ld_0, ld_s, isIv_I, isLv_L, isRv_R, true_and, and_true, lset_0, lset_1, lset_s, avw_I, avw_L, avw_R, clr_cons, clr_nil, kst_0, kst_1, kstL_0, kstL_1, addk_I, pA_0, pA_s, pD_0, pD_s, wid_nil, wid_cons, rcv_c, putv_I, putv_L, List.length_cons, List.length_nil, List.set_cons_zero, List.set_cons_succ, not_false_eq_true, Nat.reduceMod, Nat.reduceDiv, Nat.reduceEqDiff, Nat.reduceLT, Nat.reduceLeDiff, Nat.reduceAdd, Nat.reduceSub, reduceIte, Nat.lt_irrefl, Nat.zero_ne_one, Nat.one_ne_zero, Nat.zero_add, List.nil_append, List.cons_append, Option.toList_some, Option.toList_none, forall_const, false_implies, true_implies, false_or, or_false, true_or, or_true, i_le, i_lt, i_eq, i_eq0, i_lt0, i_0le, i_0lt, i_le0, i_in1, i_cl, nI_add, pk_mul, pk_sub, i_div, i_rem, i_sh1, i_bit, i_or, i_and, i_andn, nt_le, nf_le, nt_lt, nf_lt, nt_eq, nf_eq, not_true_eq_false, and_self, and_false, false_and, eq_self, Bool.toNat_true, Bool.toNat_false, i_bool, i_bool1, Bool.false_eq_true, Bool.true_eq_false, reduceCtorEq, i_neg1, i_neg2, i_neg3, i_neg4, i_neg5, i_neg6, i_neg7, i_neg8, i_neg9, i_nega, i_negb, i_negc, i_max2, i_min2]
      try simp (disch := omega) only [no0, no1, nz1, nz2, nz3, nz4, nz5, nz7, nz8, Classical.not_not, bz0, bz1, wi_nil, ld_0, ld_s, isIv_I, isLv_L, isRv_R, true_and, and_true, lset_0, lset_1, lset_s, avw_I, avw_L, avw_R, clr_cons, clr_nil, kst_0, kst_1, kstL_0, kstL_1, addk_I, pA_0, pA_s, pD_0, pD_s, wid_nil, wid_cons, rcv_c, putv_I, putv_L, List.length_cons, List.length_nil, List.set_cons_zero, List.set_cons_succ, not_false_eq_true, Nat.reduceMod, Nat.reduceDiv, Nat.reduceEqDiff, Nat.reduceLT, Nat.reduceLeDiff, Nat.reduceAdd, Nat.reduceSub, reduceIte, Nat.lt_irrefl, Nat.zero_ne_one, Nat.one_ne_zero, Nat.zero_add, List.nil_append, List.cons_append, Option.toList_some, Option.toList_none, forall_const, false_implies, true_implies, false_or, or_false, true_or, or_true, i_le, i_lt, i_eq, i_eq0, i_lt0, i_0le, i_0lt, i_le0, i_in1, i_cl, nI_add, pk_mul, pk_sub, i_div, i_rem, i_sh1, i_bit, i_or, i_and, i_andn, nt_le, nf_le, nt_lt, nf_lt, nt_eq, nf_eq, not_true_eq_false, and_self, and_false, false_and, eq_self, Bool.toNat_true, Bool.toNat_false, i_bool, i_bool1, Bool.false_eq_true, Bool.true_eq_false, reduceCtorEq, i_neg1, i_neg2, i_neg3, i_neg4, i_neg5, i_neg6, i_neg7, i_neg8, i_neg9, i_nega, i_negb, i_negc, i_max2, i_min2, wi_nil]
      repeat (
        first
        | refine s_X9_counted_0 ?_
        | refine s_X9_counted_27 ?_
        | refine s_X9_counted_31 ?_
        | refine s_X9_counted_45 ?_
        | refine s_X9_counted_46 ?_
        | refine s_X9_counted_75 ?_
        | refine s_X9_counted_79 ?_
        | refine s_X9_counted_80 ?_
        | refine s_X9_counted_88 ?_
        | refine s_X9_counted_116 ?_
        | refine s_X9_counted_117 ?_
        | refine s_X9_counted_125 ?_
        | refine s_X9_counted_152 ?_
        | refine s_X9_counted_153 ?_
        | refine s_X9_counted_161 ?_
        | refine s_X9_counted_188 ?_
        | refine s_X9_counted_189 ?_
        | refine s_X9_counted_197 ?_
        | refine s_X9_counted_236 ?_
        | refine s_X9_counted_241 ?_
        | refine s_X9_counted_248 ?_
        | refine s_X9_counted_253 ?_
        | refine s_X9_counted_260 ?_
        | refine s_X9_counted_267 ?_
        | refine s_X9_counted_275 ?_
        | refine s_X9_counted_276 ?_
        simp (disch := omega) only [B_X9_counted_0, wi_iconst, wi_istore_n, B_X9_counted_4, wi_iload_n, wi_aload_n, wi_getfield, fldv_8_10, fds_8_10, cnt_8, wi_icmp_ge, wi_bipush, wi_icmp_ne, fldv_8_20, fds_8_20, wi_invokevirtual, B_X9_counted_27, wi_invokestatic, B_X9_counted_31, wi_if_eq, wi_iadd, wi_iaload, wi_goto, cnt_31, aTy_31, aLn_31, arr_31, cnt_34, aTy_34, aLn_34, arr_34, cnt_36, aTy_36, aLn_36, arr_36, cnt_40, aTy_40, aLn_40, arr_40, cnt_43, aTy_43, aLn_43, arr_43, bsv_43, B_X9_counted_45, B_X9_counted_46, fldv_8_11, fds_8_11, wi_icmp_eq, B_X9_counted_75, B_X9_counted_79, B_X9_counted_80, wi_iinc, B_X9_counted_88, B_X9_counted_90, fldv_8_5, fds_8_5, wi_if_lt, B_X9_counted_116, B_X9_counted_117, B_X9_counted_125, B_X9_counted_127, fldv_8_8, fds_8_8, B_X9_counted_152, B_X9_counted_153, B_X9_counted_161, B_X9_counted_163, fldv_8_24, fds_8_24, wi_baload, B_X9_counted_188, B_X9_counted_189, B_X9_counted_197, wi_tsw, B_X9_counted_236, wi_ireturn, B_X9_counted_241, B_X9_counted_248, fldv_8_22, fds_8_22, B_X9_counted_253, B_X9_counted_260, B_X9_counted_267, B_X9_counted_275, B_X9_counted_276, no0, no1, nz1, nz2, nz3, nz4, nz5, nz7, nz8, Classical.not_not, bz0, bz1, wi_nil, ld_0, ld_s, isIv_I, isLv_L, isRv_R, true_and, and_true, lset_0, lset_1, lset_s, avw_I, avw_L, avw_R, clr_cons, clr_nil, kst_0, kst_1, kstL_0, kstL_1, addk_I, pA_0, pA_s, pD_0, pD_s, wid_nil, wid_cons, rcv_c, putv_I, putv_L, List.length_cons, List.length_nil, List.set_cons_zero, List.set_cons_succ, not_false_eq_true, Nat.reduceMod, Nat.reduceDiv, Nat.reduceEqDiff, Nat.reduceLT, Nat.reduceLeDiff, Nat.reduceAdd, Nat.reduceSub, reduceIte, Nat.lt_irrefl, Nat.zero_ne_one, Nat.one_ne_zero, Nat.zero_add, List.nil_append, List.cons_append, Option.toList_some, Option.toList_none, forall_const, false_implies, true_implies, false_or, or_false, true_or, or_true, i_le, i_lt, i_eq, i_eq0, i_lt0, i_0le, i_0lt, i_le0, i_in1, i_cl, nI_add, pk_mul, pk_sub, i_div, i_rem, i_sh1, i_bit, i_or, i_and, i_andn, nt_le, nf_le, nt_lt, nf_lt, nt_eq, nf_eq, not_true_eq_false, and_self, and_false, false_and, eq_self, Bool.toNat_true, Bool.toNat_false, i_bool, i_bool1, Bool.false_eq_true, Bool.true_eq_false, reduceCtorEq, i_neg1, i_neg2, i_neg3, i_neg4, i_neg5, i_neg6, i_neg7, i_neg8, i_neg9, i_nega, i_negb, i_negc, i_max2, i_min2])
      exact hnx
theorem l_mc4 {w A : Nat} {kp : Nat → Option (List Nat)} (hw : w < 11) (hA : A ≤ 300) (hk : MKp S Y0 kp) (q : wpX (d + 1) mX9_counted 197 [aR 8 0, aI (nI w), aI (nI (A + fb_sm (ifw w 10 (kz kp)) 3)), aU] [] S P) : ∀ (m i : Nat), i + m = 3 → wpX (d + 1) mX9_counted 163 [aR 8 0, aI (nI w), aI (nI (A + fb_sm (ifw w 10 (kz kp)) i)), aI (nI i)] [] S P := by
  intro m
  induction m with
  | zero =>
    intro i hi
    have e : i = 3 := by omega
    subst e
    refine s_X9_counted_163 ?_
    simp (disch := omega) only [B_X9_counted_163, wi_iload_n, wi_iconst, wi_icmp_ge, wi_bipush, wi_icmp_ne, wi_aload_n, wi_getfield, fldv_8_24, fds_8_24, cnt_8, wi_baload, wi_if_eq, wi_goto, cnt_31, aTy_31, aLn_31, arr_31, cnt_34, aTy_34, aLn_34, arr_34, cnt_36, aTy_36, aLn_36, arr_36, cnt_40, aTy_40, aLn_40, arr_40, cnt_43, aTy_43, aLn_43, arr_43, bsv_43, no0, no1, nz1, nz2, nz3, nz4, nz5, nz7, nz8, Classical.not_not, bz0, bz1, wi_nil, ld_0, ld_s, isIv_I, isLv_L, isRv_R, true_and, and_true, lset_0, lset_1, lset_s, avw_I, avw_L, avw_R, clr_cons, clr_nil, kst_0, kst_1, kstL_0, kstL_1, addk_I, pA_0, pA_s, pD_0, pD_s, wid_nil, wid_cons, rcv_c, putv_I, putv_L, List.length_cons, List.length_nil, List.set_cons_zero, List.set_cons_succ, not_false_eq_true, Nat.reduceMod, Nat.reduceDiv, Nat.reduceEqDiff, Nat.reduceLT, Nat.reduceLeDiff, Nat.reduceAdd, Nat.reduceSub, reduceIte, Nat.lt_irrefl, Nat.zero_ne_one, Nat.one_ne_zero, Nat.zero_add, List.nil_append, List.cons_append, Option.toList_some, Option.toList_none, forall_const, false_implies, true_implies, false_or, or_false, true_or, or_true, i_le, i_lt, i_eq, i_eq0, i_lt0, i_0le, i_0lt, i_le0, i_in1, i_cl, nI_add, pk_mul, pk_sub, i_div, i_rem, i_sh1, i_bit, i_or, i_and, i_andn, nt_le, nf_le, nt_lt, nf_lt, nt_eq, nf_eq, not_true_eq_false, and_self, and_false, false_and, eq_self, Bool.toNat_true, Bool.toNat_false, i_bool, i_bool1, Bool.false_eq_true, Bool.true_eq_false, reduceCtorEq, i_neg1, i_neg2, i_neg3, i_neg4, i_neg5, i_neg6, i_neg7, i_neg8, i_neg9, i_nega, i_negb, i_negc, i_max2, i_min2]
    exact q
  | succ m ih =>
    intro i hi
    have hle := ifw_le (w := w) (v := 10) (rs := kz kp) (n := i)
    have hz := hk i (by omega)
    have hnx := ih (i + 1) (by omega)
    rw [fb_sm_succ, ← Nat.add_assoc] at hnx
    by_cases h8 : w = 10
    · subst h8
      cases hki : kp i with
      | none =>
        rw [hki] at hz
        have hz : gA S 43 0 i = nI 0 := hz
        rw [show ifw 10 10 (kz kp) i = 0 by unfold ifw kz; rw [hki]; rfl] at hnx
        refine s_X9_counted_163 ?_
        simp (disch := omega) only [B_X9_counted_163, wi_iload_n, wi_iconst, wi_icmp_ge, wi_bipush, wi_icmp_ne, wi_aload_n, wi_getfield, fldv_8_24, fds_8_24, cnt_8, wi_baload, wi_if_eq, wi_goto, cnt_31, aTy_31, aLn_31, arr_31, cnt_34, aTy_34, aLn_34, arr_34, cnt_36, aTy_36, aLn_36, arr_36, cnt_40, aTy_40, aLn_40, arr_40, cnt_43, aTy_43, aLn_43, arr_43, bsv_43, no0, no1, nz1, nz2, nz3, nz4, nz5, nz7, nz8, Classical.not_not, bz0, bz1, wi_nil, ld_0, ld_s, isIv_I, isLv_L, isRv_R, true_and, and_true, lset_0, lset_1, lset_s, avw_I, avw_L, avw_R, clr_cons, clr_nil, kst_0, kst_1, kstL_0, kstL_1, addk_I, pA_0, pA_s, pD_0, pD_s, wid_nil, wid_cons, rcv_c, putv_I, putv_L, List.length_cons, List.length_nil, List.set_cons_zero, List.set_cons_succ, not_false_eq_true, Nat.reduceMod, Nat.reduceDiv, Nat.reduceEqDiff, Nat.reduceLT, Nat.reduceLeDiff, Nat.reduceAdd, Nat.reduceSub, reduceIte, Nat.lt_irrefl, Nat.zero_ne_one, Nat.one_ne_zero, Nat.zero_add, List.nil_append, List.cons_append, Option.toList_some, Option.toList_none, forall_const, false_implies, true_implies, false_or, or_false, true_or, or_true, i_le, i_lt, i_eq, i_eq0, i_lt0, i_0le, i_0lt, i_le0, i_in1, i_cl, nI_add, pk_mul, pk_sub, i_div, i_rem, i_sh1, i_bit, i_or, i_and, i_andn, nt_le, nf_le, nt_lt, nf_lt, nt_eq, nf_eq, not_true_eq_false, and_self, and_false, false_and, eq_self, Bool.toNat_true, Bool.toNat_false, i_bool, i_bool1, Bool.false_eq_true, Bool.true_eq_false, reduceCtorEq, i_neg1, i_neg2, i_neg3, i_neg4, i_neg5, i_neg6, i_neg7, i_neg8, i_neg9, i_nega, i_negb, i_negc, i_max2, i_min2]
        try simp (disch := omega) only [no0, no1, nz1, nz2, nz3, nz4, nz5, nz7, nz8, Classical.not_not, bz0, bz1, wi_nil, ld_0, ld_s, isIv_I, isLv_L, isRv_R, true_and, and_true, lset_0, lset_1, lset_s, avw_I, avw_L, avw_R, clr_cons, clr_nil, kst_0, kst_1, kstL_0, kstL_1, addk_I, pA_0, pA_s, pD_0, pD_s, wid_nil, wid_cons, rcv_c, putv_I, putv_L, List.length_cons, List.length_nil, List.set_cons_zero, List.set_cons_succ, not_false_eq_true, Nat.reduceMod, Nat.reduceDiv, Nat.reduceEqDiff, Nat.reduceLT, Nat.reduceLeDiff, Nat.reduceAdd, Nat.reduceSub, reduceIte, Nat.lt_irrefl, Nat.zero_ne_one, Nat.one_ne_zero, Nat.zero_add, List.nil_append, List.cons_append, Option.toList_some, Option.toList_none, forall_const, false_implies, true_implies, false_or, or_false, true_or, or_true, i_le, i_lt, i_eq, i_eq0, i_lt0, i_0le, i_0lt, i_le0, i_in1, i_cl, nI_add, pk_mul, pk_sub, i_div, i_rem, i_sh1, i_bit, i_or, i_and, i_andn, nt_le, nf_le, nt_lt, nf_lt, nt_eq, nf_eq, not_true_eq_false, and_self, and_false, false_and, eq_self, Bool.toNat_true, Bool.toNat_false, i_bool, i_bool1, Bool.false_eq_true, Bool.true_eq_false, reduceCtorEq, i_neg1, i_neg2, i_neg3, i_neg4, i_neg5, i_neg6, i_neg7, i_neg8, i_neg9, i_nega, i_negb, i_negc, i_max2, i_min2, hz, wi_nil]
        repeat (
          first
          | refine s_X9_counted_0 ?_
          | refine s_X9_counted_27 ?_
          | refine s_X9_counted_31 ?_
          | refine s_X9_counted_45 ?_
          | refine s_X9_counted_46 ?_
          | refine s_X9_counted_75 ?_
          | refine s_X9_counted_79 ?_
          | refine s_X9_counted_80 ?_
          | refine s_X9_counted_88 ?_
          | refine s_X9_counted_116 ?_
          | refine s_X9_counted_117 ?_
          | refine s_X9_counted_125 ?_
          | refine s_X9_counted_152 ?_
          | refine s_X9_counted_153 ?_
          | refine s_X9_counted_161 ?_
          | refine s_X9_counted_188 ?_
          | refine s_X9_counted_189 ?_
          | refine s_X9_counted_197 ?_
          | refine s_X9_counted_236 ?_
          | refine s_X9_counted_241 ?_
          | refine s_X9_counted_248 ?_
          | refine s_X9_counted_253 ?_
          | refine s_X9_counted_260 ?_
          | refine s_X9_counted_267 ?_
          | refine s_X9_counted_275 ?_
          | refine s_X9_counted_276 ?_
          simp (disch := omega) only [B_X9_counted_0, wi_iconst, wi_istore_n, B_X9_counted_4, wi_iload_n, wi_aload_n, wi_getfield, fldv_8_10, fds_8_10, cnt_8, wi_icmp_ge, wi_bipush, wi_icmp_ne, fldv_8_20, fds_8_20, wi_invokevirtual, B_X9_counted_27, wi_invokestatic, B_X9_counted_31, wi_if_eq, wi_iadd, wi_iaload, wi_goto, cnt_31, aTy_31, aLn_31, arr_31, cnt_34, aTy_34, aLn_34, arr_34, cnt_36, aTy_36, aLn_36, arr_36, cnt_40, aTy_40, aLn_40, arr_40, cnt_43, aTy_43, aLn_43, arr_43, bsv_43, B_X9_counted_45, B_X9_counted_46, fldv_8_11, fds_8_11, wi_icmp_eq, B_X9_counted_75, B_X9_counted_79, B_X9_counted_80, wi_iinc, B_X9_counted_88, B_X9_counted_90, fldv_8_5, fds_8_5, wi_if_lt, B_X9_counted_116, B_X9_counted_117, B_X9_counted_125, B_X9_counted_127, fldv_8_8, fds_8_8, B_X9_counted_152, B_X9_counted_153, B_X9_counted_161, B_X9_counted_163, fldv_8_24, fds_8_24, wi_baload, B_X9_counted_188, B_X9_counted_189, B_X9_counted_197, wi_tsw, B_X9_counted_236, wi_ireturn, B_X9_counted_241, B_X9_counted_248, fldv_8_22, fds_8_22, B_X9_counted_253, B_X9_counted_260, B_X9_counted_267, B_X9_counted_275, B_X9_counted_276, no0, no1, nz1, nz2, nz3, nz4, nz5, nz7, nz8, Classical.not_not, bz0, bz1, wi_nil, ld_0, ld_s, isIv_I, isLv_L, isRv_R, true_and, and_true, lset_0, lset_1, lset_s, avw_I, avw_L, avw_R, clr_cons, clr_nil, kst_0, kst_1, kstL_0, kstL_1, addk_I, pA_0, pA_s, pD_0, pD_s, wid_nil, wid_cons, rcv_c, putv_I, putv_L, List.length_cons, List.length_nil, List.set_cons_zero, List.set_cons_succ, not_false_eq_true, Nat.reduceMod, Nat.reduceDiv, Nat.reduceEqDiff, Nat.reduceLT, Nat.reduceLeDiff, Nat.reduceAdd, Nat.reduceSub, reduceIte, Nat.lt_irrefl, Nat.zero_ne_one, Nat.one_ne_zero, Nat.zero_add, List.nil_append, List.cons_append, Option.toList_some, Option.toList_none, forall_const, false_implies, true_implies, false_or, or_false, true_or, or_true, i_le, i_lt, i_eq, i_eq0, i_lt0, i_0le, i_0lt, i_le0, i_in1, i_cl, nI_add, pk_mul, pk_sub, i_div, i_rem, i_sh1, i_bit, i_or, i_and, i_andn, nt_le, nf_le, nt_lt, nf_lt, nt_eq, nf_eq, not_true_eq_false, and_self, and_false, false_and, eq_self, Bool.toNat_true, Bool.toNat_false, i_bool, i_bool1, Bool.false_eq_true, Bool.true_eq_false, reduceCtorEq, i_neg1, i_neg2, i_neg3, i_neg4, i_neg5, i_neg6, i_neg7, i_neg8, i_neg9, i_nega, i_negb, i_negc, i_max2, i_min2, hz])
        exact hnx
      | some l =>
        rw [hki] at hz
        have hz : gA S 43 0 i = nI 1 := hz.1
        rw [show ifw 10 10 (kz kp) i = 1 by unfold ifw kz; rw [hki]; rfl] at hnx
        refine s_X9_counted_163 ?_
        simp (disch := omega) only [B_X9_counted_163, wi_iload_n, wi_iconst, wi_icmp_ge, wi_bipush, wi_icmp_ne, wi_aload_n, wi_getfield, fldv_8_24, fds_8_24, cnt_8, wi_baload, wi_if_eq, wi_goto, cnt_31, aTy_31, aLn_31, arr_31, cnt_34, aTy_34, aLn_34, arr_34, cnt_36, aTy_36, aLn_36, arr_36, cnt_40, aTy_40, aLn_40, arr_40, cnt_43, aTy_43, aLn_43, arr_43, bsv_43, no0, no1, nz1, nz2, nz3, nz4, nz5, nz7, nz8, Classical.not_not, bz0, bz1, wi_nil, ld_0, ld_s, isIv_I, isLv_L, isRv_R, true_and, and_true, lset_0, lset_1, lset_s, avw_I, avw_L, avw_R, clr_cons, clr_nil, kst_0, kst_1, kstL_0, kstL_1, addk_I, pA_0, pA_s, pD_0, pD_s, wid_nil, wid_cons, rcv_c, putv_I, putv_L, List.length_cons, List.length_nil, List.set_cons_zero, List.set_cons_succ, not_false_eq_true, Nat.reduceMod, Nat.reduceDiv, Nat.reduceEqDiff, Nat.reduceLT, Nat.reduceLeDiff, Nat.reduceAdd, Nat.reduceSub, reduceIte, Nat.lt_irrefl, Nat.zero_ne_one, Nat.one_ne_zero, Nat.zero_add, List.nil_append, List.cons_append, Option.toList_some, Option.toList_none, forall_const, false_implies, true_implies, false_or, or_false, true_or, or_true, i_le, i_lt, i_eq, i_eq0, i_lt0, i_0le, i_0lt, i_le0, i_in1, i_cl, nI_add, pk_mul, pk_sub, i_div, i_rem, i_sh1, i_bit, i_or, i_and, i_andn, nt_le, nf_le, nt_lt, nf_lt, nt_eq, nf_eq, not_true_eq_false, and_self, and_false, false_and, eq_self, Bool.toNat_true, Bool.toNat_false, i_bool, i_bool1, Bool.false_eq_true, Bool.true_eq_false, reduceCtorEq, i_neg1, i_neg2, i_neg3, i_neg4, i_neg5, i_neg6, i_neg7, i_neg8, i_neg9, i_nega, i_negb, i_negc, i_max2, i_min2]
        try simp (disch := omega) only [no0, no1, nz1, nz2, nz3, nz4, nz5, nz7, nz8, Classical.not_not, bz0, bz1, wi_nil, ld_0, ld_s, isIv_I, isLv_L, isRv_R, true_and, and_true, lset_0, lset_1, lset_s, avw_I, avw_L, avw_R, clr_cons, clr_nil, kst_0, kst_1, kstL_0, kstL_1, addk_I, pA_0, pA_s, pD_0, pD_s, wid_nil, wid_cons, rcv_c, putv_I, putv_L, List.length_cons, List.length_nil, List.set_cons_zero, List.set_cons_succ, not_false_eq_true, Nat.reduceMod, Nat.reduceDiv, Nat.reduceEqDiff, Nat.reduceLT, Nat.reduceLeDiff, Nat.reduceAdd, Nat.reduceSub, reduceIte, Nat.lt_irrefl, Nat.zero_ne_one, Nat.one_ne_zero, Nat.zero_add, List.nil_append, List.cons_append, Option.toList_some, Option.toList_none, forall_const, false_implies, true_implies, false_or, or_false, true_or, or_true, i_le, i_lt, i_eq, i_eq0, i_lt0, i_0le, i_0lt, i_le0, i_in1, i_cl, nI_add, pk_mul, pk_sub, i_div, i_rem, i_sh1, i_bit, i_or, i_and, i_andn, nt_le, nf_le, nt_lt, nf_lt, nt_eq, nf_eq, not_true_eq_false, and_self, and_false, false_and, eq_self, Bool.toNat_true, Bool.toNat_false, i_bool, i_bool1, Bool.false_eq_true, Bool.true_eq_false, reduceCtorEq, i_neg1, i_neg2, i_neg3, i_neg4, i_neg5, i_neg6, i_neg7, i_neg8, i_neg9, i_nega, i_negb, i_negc, i_max2, i_min2, hz, wi_nil]
        repeat (
          first
          | refine s_X9_counted_0 ?_
          | refine s_X9_counted_27 ?_
          | refine s_X9_counted_31 ?_
          | refine s_X9_counted_45 ?_
          | refine s_X9_counted_46 ?_
          | refine s_X9_counted_75 ?_
          | refine s_X9_counted_79 ?_
          | refine s_X9_counted_80 ?_
          | refine s_X9_counted_88 ?_
          | refine s_X9_counted_116 ?_
          | refine s_X9_counted_117 ?_
          | refine s_X9_counted_125 ?_
          | refine s_X9_counted_152 ?_
          | refine s_X9_counted_153 ?_
          | refine s_X9_counted_161 ?_
          | refine s_X9_counted_188 ?_
          | refine s_X9_counted_189 ?_
          | refine s_X9_counted_197 ?_
          | refine s_X9_counted_236 ?_
          | refine s_X9_counted_241 ?_
          | refine s_X9_counted_248 ?_
          | refine s_X9_counted_253 ?_
          | refine s_X9_counted_260 ?_
          | refine s_X9_counted_267 ?_
          | refine s_X9_counted_275 ?_
          | refine s_X9_counted_276 ?_
          simp (disch := omega) only [B_X9_counted_0, wi_iconst, wi_istore_n, B_X9_counted_4, wi_iload_n, wi_aload_n, wi_getfield, fldv_8_10, fds_8_10, cnt_8, wi_icmp_ge, wi_bipush, wi_icmp_ne, fldv_8_20, fds_8_20, wi_invokevirtual, B_X9_counted_27, wi_invokestatic, B_X9_counted_31, wi_if_eq, wi_iadd, wi_iaload, wi_goto, cnt_31, aTy_31, aLn_31, arr_31, cnt_34, aTy_34, aLn_34, arr_34, cnt_36, aTy_36, aLn_36, arr_36, cnt_40, aTy_40, aLn_40, arr_40, cnt_43, aTy_43, aLn_43, arr_43, bsv_43, B_X9_counted_45, B_X9_counted_46, fldv_8_11, fds_8_11, wi_icmp_eq, B_X9_counted_75, B_X9_counted_79, B_X9_counted_80, wi_iinc, B_X9_counted_88, B_X9_counted_90, fldv_8_5, fds_8_5, wi_if_lt, B_X9_counted_116, B_X9_counted_117, B_X9_counted_125, B_X9_counted_127, fldv_8_8, fds_8_8, B_X9_counted_152, B_X9_counted_153, B_X9_counted_161, B_X9_counted_163, fldv_8_24, fds_8_24, wi_baload, B_X9_counted_188, B_X9_counted_189, B_X9_counted_197, wi_tsw, B_X9_counted_236, wi_ireturn, B_X9_counted_241, B_X9_counted_248, fldv_8_22, fds_8_22, B_X9_counted_253, B_X9_counted_260, B_X9_counted_267, B_X9_counted_275, B_X9_counted_276, no0, no1, nz1, nz2, nz3, nz4, nz5, nz7, nz8, Classical.not_not, bz0, bz1, wi_nil, ld_0, ld_s, isIv_I, isLv_L, isRv_R, true_and, and_true, lset_0, lset_1, lset_s, avw_I, avw_L, avw_R, clr_cons, clr_nil, kst_0, kst_1, kstL_0, kstL_1, addk_I, pA_0, pA_s, pD_0, pD_s, wid_nil, wid_cons, rcv_c, putv_I, putv_L, List.length_cons, List.length_nil, List.set_cons_zero, List.set_cons_succ, not_false_eq_true, Nat.reduceMod, Nat.reduceDiv, Nat.reduceEqDiff, Nat.reduceLT, Nat.reduceLeDiff, Nat.reduceAdd, Nat.reduceSub, reduceIte, Nat.lt_irrefl, Nat.zero_ne_one, Nat.one_ne_zero, Nat.zero_add, List.nil_append, List.cons_append, Option.toList_some, Option.toList_none, forall_const, false_implies, true_implies, false_or, or_false, true_or, or_true, i_le, i_lt, i_eq, i_eq0, i_lt0, i_0le, i_0lt, i_le0, i_in1, i_cl, nI_add, pk_mul, pk_sub, i_div, i_rem, i_sh1, i_bit, i_or, i_and, i_andn, nt_le, nf_le, nt_lt, nf_lt, nt_eq, nf_eq, not_true_eq_false, and_self, and_false, false_and, eq_self, Bool.toNat_true, Bool.toNat_false, i_bool, i_bool1, Bool.false_eq_true, Bool.true_eq_false, reduceCtorEq, i_neg1, i_neg2, i_neg3, i_neg4, i_neg5, i_neg6, i_neg7, i_neg8, i_neg9, i_nega, i_negb, i_negc, i_max2, i_min2, hz])
        exact hnx
    · rw [show ifw w 10 (kz kp) i = 0 from if_neg h8] at hnx
      refine s_X9_counted_163 ?_
      simp (disch := omega) only [B_X9_counted_163, wi_iload_n, wi_iconst, wi_icmp_ge, wi_bipush, wi_icmp_ne, wi_aload_n, wi_getfield, fldv_8_24, fds_8_24, cnt_8, wi_baload, wi_if_eq, wi_goto, cnt_31, aTy_31, aLn_31, arr_31, cnt_34, aTy_34, aLn_34, arr_34, cnt_36, aTy_36, aLn_36, arr_36, cnt_40, aTy_40, aLn_40, arr_40, cnt_43, aTy_43, aLn_43, arr_43, bsv_43, no0, no1, nz1, nz2, nz3, nz4, nz5, nz7, nz8, Classical.not_not, bz0, bz1, wi_nil, ld_0, ld_s, isIv_I, isLv_L, isRv_R, true_and, and_true, lset_0, lset_1, lset_s, avw_I, avw_L, avw_R, clr_cons, clr_nil, kst_0, kst_1, kstL_0, kstL_1, addk_I, pA_0, pA_s, pD_0, pD_s, wid_nil, wid_cons, rcv_c, putv_I, putv_L, List.length_cons, List.length_nil, List.set_cons_zero, List.set_cons_succ, not_false_eq_true, Nat.reduceMod, Nat.reduceDiv, Nat.reduceEqDiff, Nat.reduceLT, Nat.reduceLeDiff, Nat.reduceAdd, Nat.reduceSub, reduceIte, Nat.lt_irrefl, Nat.zero_ne_one, Nat.one_ne_zero, Nat.zero_add, List.nil_append, List.cons_append, Option.toList_some, Option.toList_none, forall_const, false_implies, true_implies, false_or, or_false, true_or, or_true, i_le, i_lt, i_eq, i_eq0, i_lt0, i_0le, i_0lt, i_le0, i_in1, i_cl, nI_add, pk_mul, pk_sub, i_div, i_rem, i_sh1, i_bit, i_or, i_and, i_andn, nt_le, nf_le, nt_lt, nf_lt, nt_eq, nf_eq, not_true_eq_false, and_self, and_false, false_and, eq_self, Bool.toNat_true, Bool.toNat_false, i_bool, i_bool1, Bool.false_eq_true, Bool.true_eq_false, reduceCtorEq, i_neg1, i_neg2, i_neg3, i_neg4, i_neg5, i_neg6, i_neg7, i_neg8, i_neg9, i_nega, i_negb, i_negc, i_max2, i_min2]
      try simp (disch := omega) only [no0, no1, nz1, nz2, nz3, nz4, nz5, nz7, nz8, Classical.not_not, bz0, bz1, wi_nil, ld_0, ld_s, isIv_I, isLv_L, isRv_R, true_and, and_true, lset_0, lset_1, lset_s, avw_I, avw_L, avw_R, clr_cons, clr_nil, kst_0, kst_1, kstL_0, kstL_1, addk_I, pA_0, pA_s, pD_0, pD_s, wid_nil, wid_cons, rcv_c, putv_I, putv_L, List.length_cons, List.length_nil, List.set_cons_zero, List.set_cons_succ, not_false_eq_true, Nat.reduceMod, Nat.reduceDiv, Nat.reduceEqDiff, Nat.reduceLT, Nat.reduceLeDiff, Nat.reduceAdd, Nat.reduceSub, reduceIte, Nat.lt_irrefl, Nat.zero_ne_one, Nat.one_ne_zero, Nat.zero_add, List.nil_append, List.cons_append, Option.toList_some, Option.toList_none, forall_const, false_implies, true_implies, false_or, or_false, true_or, or_true, i_le, i_lt, i_eq, i_eq0, i_lt0, i_0le, i_0lt, i_le0, i_in1, i_cl, nI_add, pk_mul, pk_sub, i_div, i_rem, i_sh1, i_bit, i_or, i_and, i_andn, nt_le, nf_le, nt_lt, nf_lt, nt_eq, nf_eq, not_true_eq_false, and_self, and_false, false_and, eq_self, Bool.toNat_true, Bool.toNat_false, i_bool, i_bool1, Bool.false_eq_true, Bool.true_eq_false, reduceCtorEq, i_neg1, i_neg2, i_neg3, i_neg4, i_neg5, i_neg6, i_neg7, i_neg8, i_neg9, i_nega, i_negb, i_negc, i_max2, i_min2, wi_nil]
      repeat (
        first
        | refine s_X9_counted_0 ?_
        | refine s_X9_counted_27 ?_
        | refine s_X9_counted_31 ?_
        | refine s_X9_counted_45 ?_
        | refine s_X9_counted_46 ?_
        | refine s_X9_counted_75 ?_
        | refine s_X9_counted_79 ?_
        | refine s_X9_counted_80 ?_
        | refine s_X9_counted_88 ?_
        | refine s_X9_counted_116 ?_
        | refine s_X9_counted_117 ?_
        | refine s_X9_counted_125 ?_
        | refine s_X9_counted_152 ?_
        | refine s_X9_counted_153 ?_
        | refine s_X9_counted_161 ?_
        | refine s_X9_counted_188 ?_
        | refine s_X9_counted_189 ?_
        | refine s_X9_counted_197 ?_
        | refine s_X9_counted_236 ?_
        | refine s_X9_counted_241 ?_
        | refine s_X9_counted_248 ?_
        | refine s_X9_counted_253 ?_
        | refine s_X9_counted_260 ?_
        | refine s_X9_counted_267 ?_
        | refine s_X9_counted_275 ?_
        | refine s_X9_counted_276 ?_
        simp (disch := omega) only [B_X9_counted_0, wi_iconst, wi_istore_n, B_X9_counted_4, wi_iload_n, wi_aload_n, wi_getfield, fldv_8_10, fds_8_10, cnt_8, wi_icmp_ge, wi_bipush, wi_icmp_ne, fldv_8_20, fds_8_20, wi_invokevirtual, B_X9_counted_27, wi_invokestatic, B_X9_counted_31, wi_if_eq, wi_iadd, wi_iaload, wi_goto, cnt_31, aTy_31, aLn_31, arr_31, cnt_34, aTy_34, aLn_34, arr_34, cnt_36, aTy_36, aLn_36, arr_36, cnt_40, aTy_40, aLn_40, arr_40, cnt_43, aTy_43, aLn_43, arr_43, bsv_43, B_X9_counted_45, B_X9_counted_46, fldv_8_11, fds_8_11, wi_icmp_eq, B_X9_counted_75, B_X9_counted_79, B_X9_counted_80, wi_iinc, B_X9_counted_88, B_X9_counted_90, fldv_8_5, fds_8_5, wi_if_lt, B_X9_counted_116, B_X9_counted_117, B_X9_counted_125, B_X9_counted_127, fldv_8_8, fds_8_8, B_X9_counted_152, B_X9_counted_153, B_X9_counted_161, B_X9_counted_163, fldv_8_24, fds_8_24, wi_baload, B_X9_counted_188, B_X9_counted_189, B_X9_counted_197, wi_tsw, B_X9_counted_236, wi_ireturn, B_X9_counted_241, B_X9_counted_248, fldv_8_22, fds_8_22, B_X9_counted_253, B_X9_counted_260, B_X9_counted_267, B_X9_counted_275, B_X9_counted_276, no0, no1, nz1, nz2, nz3, nz4, nz5, nz7, nz8, Classical.not_not, bz0, bz1, wi_nil, ld_0, ld_s, isIv_I, isLv_L, isRv_R, true_and, and_true, lset_0, lset_1, lset_s, avw_I, avw_L, avw_R, clr_cons, clr_nil, kst_0, kst_1, kstL_0, kstL_1, addk_I, pA_0, pA_s, pD_0, pD_s, wid_nil, wid_cons, rcv_c, putv_I, putv_L, List.length_cons, List.length_nil, List.set_cons_zero, List.set_cons_succ, not_false_eq_true, Nat.reduceMod, Nat.reduceDiv, Nat.reduceEqDiff, Nat.reduceLT, Nat.reduceLeDiff, Nat.reduceAdd, Nat.reduceSub, reduceIte, Nat.lt_irrefl, Nat.zero_ne_one, Nat.one_ne_zero, Nat.zero_add, List.nil_append, List.cons_append, Option.toList_some, Option.toList_none, forall_const, false_implies, true_implies, false_or, or_false, true_or, or_true, i_le, i_lt, i_eq, i_eq0, i_lt0, i_0le, i_0lt, i_le0, i_in1, i_cl, nI_add, pk_mul, pk_sub, i_div, i_rem, i_sh1, i_bit, i_or, i_and, i_andn, nt_le, nf_le, nt_lt, nf_lt, nt_eq, nf_eq, not_true_eq_false, and_self, and_false, false_and, eq_self, Bool.toNat_true, Bool.toNat_false, i_bool, i_bool1, Bool.false_eq_true, Bool.true_eq_false, reduceCtorEq, i_neg1, i_neg2, i_neg3, i_neg4, i_neg5, i_neg6, i_neg7, i_neg8, i_neg9, i_nega, i_negb, i_negc, i_max2, i_min2])
      exact hnx
theorem c_counted {L w : Nat} {kp : Nat → Option (List Nat)} (hw : w < 11) (hm : YrM S 40 Y) (ho : YOk 40 Y) (hL : gI S 8 0 22 = nI L) (h1 : Tb S 31 32 6 40 rs rc) (h2 : Tb S 34 35 4 60 ts tc) (h3 : MKp S Y0 kp) (q : P (some (aI (nI (ctV Y L rs ts (kz kp) w)))) S) : wpM (d + 2) mX9_counted [aR 8 0, aI (nI w)] S P := by
  have hn5 := ho.1.1
  have b1 := sm_le9 (Y := Y) hn5 (hbF_le ho (w := w)) (Nat.le_refl (Y 6 0))
  have b2 := ifw_le (w := w) (v := 8) (rs := rs) (n := 6)
  have b3 := ifw_le (w := w) (v := 9) (rs := ts) (n := 4)
  refine x_entry (ls2 := [aR 8 0, aI (nI w), aU, aU]) (Nat.le_of_ble_eq_true rfl) pl_9 rfl (Nat.le_of_ble_eq_true rfl) ?_
  try simp (disch := omega) only [no0, no1, nz1, nz2, nz3, nz4, nz5, nz7, nz8, Classical.not_not, bz0, bz1, wi_nil, ld_0, ld_s, isIv_I, isLv_L, isRv_R, true_and, and_true, lset_0, lset_1, lset_s, avw_I, avw_L, avw_R, clr_cons, clr_nil, kst_0, kst_1, kstL_0, kstL_1, addk_I, pA_0, pA_s, pD_0, pD_s, wid_nil, wid_cons, rcv_c, putv_I, putv_L, List.length_cons, List.length_nil, List.set_cons_zero, List.set_cons_succ, not_false_eq_true, Nat.reduceMod, Nat.reduceDiv, Nat.reduceEqDiff, Nat.reduceLT, Nat.reduceLeDiff, Nat.reduceAdd, Nat.reduceSub, reduceIte, Nat.lt_irrefl, Nat.zero_ne_one, Nat.one_ne_zero, Nat.zero_add, List.nil_append, List.cons_append, Option.toList_some, Option.toList_none, forall_const, false_implies, true_implies, false_or, or_false, true_or, or_true, i_le, i_lt, i_eq, i_eq0, i_lt0, i_0le, i_0lt, i_le0, i_in1, i_cl, nI_add, pk_mul, pk_sub, i_div, i_rem, i_sh1, i_bit, i_or, i_and, i_andn, nt_le, nf_le, nt_lt, nf_lt, nt_eq, nf_eq, not_true_eq_false, and_self, and_false, false_and, eq_self, Bool.toNat_true, Bool.toNat_false, i_bool, i_bool1, Bool.false_eq_true, Bool.true_eq_false, reduceCtorEq, i_neg1, i_neg2, i_neg3, i_neg4, i_neg5, i_neg6, i_neg7, i_neg8, i_neg9, i_nega, i_negb, i_negc, i_max2, i_min2, wi_nil]
  repeat (
    first
    | refine s_X9_counted_0 ?_
    | refine s_X9_counted_27 ?_
    | refine s_X9_counted_31 ?_
    | refine s_X9_counted_45 ?_
    | refine s_X9_counted_46 ?_
    | refine s_X9_counted_75 ?_
    | refine s_X9_counted_79 ?_
    | refine s_X9_counted_80 ?_
    | refine s_X9_counted_88 ?_
    | refine s_X9_counted_116 ?_
    | refine s_X9_counted_117 ?_
    | refine s_X9_counted_125 ?_
    | refine s_X9_counted_152 ?_
    | refine s_X9_counted_153 ?_
    | refine s_X9_counted_161 ?_
    | refine s_X9_counted_188 ?_
    | refine s_X9_counted_189 ?_
    | refine s_X9_counted_197 ?_
    | refine s_X9_counted_236 ?_
    | refine s_X9_counted_241 ?_
    | refine s_X9_counted_248 ?_
    | refine s_X9_counted_253 ?_
    | refine s_X9_counted_260 ?_
    | refine s_X9_counted_267 ?_
    | refine s_X9_counted_275 ?_
    | refine s_X9_counted_276 ?_
    simp (disch := omega) only [B_X9_counted_0, wi_iconst, wi_istore_n, B_X9_counted_4, wi_iload_n, wi_aload_n, wi_getfield, fldv_8_10, fds_8_10, cnt_8, wi_icmp_ge, wi_bipush, wi_icmp_ne, fldv_8_20, fds_8_20, wi_invokevirtual, B_X9_counted_27, wi_invokestatic, B_X9_counted_31, wi_if_eq, wi_iadd, wi_iaload, wi_goto, cnt_31, aTy_31, aLn_31, arr_31, cnt_34, aTy_34, aLn_34, arr_34, cnt_36, aTy_36, aLn_36, arr_36, cnt_40, aTy_40, aLn_40, arr_40, cnt_43, aTy_43, aLn_43, arr_43, bsv_43, B_X9_counted_45, B_X9_counted_46, fldv_8_11, fds_8_11, wi_icmp_eq, B_X9_counted_75, B_X9_counted_79, B_X9_counted_80, wi_iinc, B_X9_counted_88, B_X9_counted_90, fldv_8_5, fds_8_5, wi_if_lt, B_X9_counted_116, B_X9_counted_117, B_X9_counted_125, B_X9_counted_127, fldv_8_8, fds_8_8, B_X9_counted_152, B_X9_counted_153, B_X9_counted_161, B_X9_counted_163, fldv_8_24, fds_8_24, wi_baload, B_X9_counted_188, B_X9_counted_189, B_X9_counted_197, wi_tsw, B_X9_counted_236, wi_ireturn, B_X9_counted_241, B_X9_counted_248, fldv_8_22, fds_8_22, B_X9_counted_253, B_X9_counted_260, B_X9_counted_267, B_X9_counted_275, B_X9_counted_276, no0, no1, nz1, nz2, nz3, nz4, nz5, nz7, nz8, Classical.not_not, bz0, bz1, wi_nil, ld_0, ld_s, isIv_I, isLv_L, isRv_R, true_and, and_true, lset_0, lset_1, lset_s, avw_I, avw_L, avw_R, clr_cons, clr_nil, kst_0, kst_1, kstL_0, kstL_1, addk_I, pA_0, pA_s, pD_0, pD_s, wid_nil, wid_cons, rcv_c, putv_I, putv_L, List.length_cons, List.length_nil, List.set_cons_zero, List.set_cons_succ, not_false_eq_true, Nat.reduceMod, Nat.reduceDiv, Nat.reduceEqDiff, Nat.reduceLT, Nat.reduceLeDiff, Nat.reduceAdd, Nat.reduceSub, reduceIte, Nat.lt_irrefl, Nat.zero_ne_one, Nat.one_ne_zero, Nat.zero_add, List.nil_append, List.cons_append, Option.toList_some, Option.toList_none, forall_const, false_implies, true_implies, false_or, or_false, true_or, or_true, i_le, i_lt, i_eq, i_eq0, i_lt0, i_0le, i_0lt, i_le0, i_in1, i_cl, nI_add, pk_mul, pk_sub, i_div, i_rem, i_sh1, i_bit, i_or, i_and, i_andn, nt_le, nf_le, nt_lt, nf_lt, nt_eq, nf_eq, not_true_eq_false, and_self, and_false, false_and, eq_self, Bool.toNat_true, Bool.toNat_false, i_bool, i_bool1, Bool.false_eq_true, Bool.true_eq_false, reduceCtorEq, i_neg1, i_neg2, i_neg3, i_neg4, i_neg5, i_neg6, i_neg7, i_neg8, i_neg9, i_nega, i_negb, i_negc, i_max2, i_min2])
  refine l_mc1 hw hm ho ?_ (Y 6 0) 0 (by omega)
  try simp (disch := omega) only [no0, no1, nz1, nz2, nz3, nz4, nz5, nz7, nz8, Classical.not_not, bz0, bz1, wi_nil, ld_0, ld_s, isIv_I, isLv_L, isRv_R, true_and, and_true, lset_0, lset_1, lset_s, avw_I, avw_L, avw_R, clr_cons, clr_nil, kst_0, kst_1, kstL_0, kstL_1, addk_I, pA_0, pA_s, pD_0, pD_s, wid_nil, wid_cons, rcv_c, putv_I, putv_L, List.length_cons, List.length_nil, List.set_cons_zero, List.set_cons_succ, not_false_eq_true, Nat.reduceMod, Nat.reduceDiv, Nat.reduceEqDiff, Nat.reduceLT, Nat.reduceLeDiff, Nat.reduceAdd, Nat.reduceSub, reduceIte, Nat.lt_irrefl, Nat.zero_ne_one, Nat.one_ne_zero, Nat.zero_add, List.nil_append, List.cons_append, Option.toList_some, Option.toList_none, forall_const, false_implies, true_implies, false_or, or_false, true_or, or_true, i_le, i_lt, i_eq, i_eq0, i_lt0, i_0le, i_0lt, i_le0, i_in1, i_cl, nI_add, pk_mul, pk_sub, i_div, i_rem, i_sh1, i_bit, i_or, i_and, i_andn, nt_le, nf_le, nt_lt, nf_lt, nt_eq, nf_eq, not_true_eq_false, and_self, and_false, false_and, eq_self, Bool.toNat_true, Bool.toNat_false, i_bool, i_bool1, Bool.false_eq_true, Bool.true_eq_false, reduceCtorEq, i_neg1, i_neg2, i_neg3, i_neg4, i_neg5, i_neg6, i_neg7, i_neg8, i_neg9, i_nega, i_negb, i_negc, i_max2, i_min2, wi_nil]
  repeat (
    first
    | refine s_X9_counted_0 ?_
    | refine s_X9_counted_27 ?_
    | refine s_X9_counted_31 ?_
    | refine s_X9_counted_45 ?_
    | refine s_X9_counted_46 ?_
    | refine s_X9_counted_75 ?_
    | refine s_X9_counted_79 ?_
    | refine s_X9_counted_80 ?_
    | refine s_X9_counted_88 ?_
    | refine s_X9_counted_116 ?_
    | refine s_X9_counted_117 ?_
    | refine s_X9_counted_125 ?_
    | refine s_X9_counted_152 ?_
    | refine s_X9_counted_153 ?_
    | refine s_X9_counted_161 ?_
    | refine s_X9_counted_188 ?_
    | refine s_X9_counted_189 ?_
    | refine s_X9_counted_197 ?_
    | refine s_X9_counted_236 ?_
    | refine s_X9_counted_241 ?_
    | refine s_X9_counted_248 ?_
    | refine s_X9_counted_253 ?_
    | refine s_X9_counted_260 ?_
    | refine s_X9_counted_267 ?_
    | refine s_X9_counted_275 ?_
    | refine s_X9_counted_276 ?_
    simp (disch := omega) only [B_X9_counted_0, wi_iconst, wi_istore_n, B_X9_counted_4, wi_iload_n, wi_aload_n, wi_getfield, fldv_8_10, fds_8_10, cnt_8, wi_icmp_ge, wi_bipush, wi_icmp_ne, fldv_8_20, fds_8_20, wi_invokevirtual, B_X9_counted_27, wi_invokestatic, B_X9_counted_31, wi_if_eq, wi_iadd, wi_iaload, wi_goto, cnt_31, aTy_31, aLn_31, arr_31, cnt_34, aTy_34, aLn_34, arr_34, cnt_36, aTy_36, aLn_36, arr_36, cnt_40, aTy_40, aLn_40, arr_40, cnt_43, aTy_43, aLn_43, arr_43, bsv_43, B_X9_counted_45, B_X9_counted_46, fldv_8_11, fds_8_11, wi_icmp_eq, B_X9_counted_75, B_X9_counted_79, B_X9_counted_80, wi_iinc, B_X9_counted_88, B_X9_counted_90, fldv_8_5, fds_8_5, wi_if_lt, B_X9_counted_116, B_X9_counted_117, B_X9_counted_125, B_X9_counted_127, fldv_8_8, fds_8_8, B_X9_counted_152, B_X9_counted_153, B_X9_counted_161, B_X9_counted_163, fldv_8_24, fds_8_24, wi_baload, B_X9_counted_188, B_X9_counted_189, B_X9_counted_197, wi_tsw, B_X9_counted_236, wi_ireturn, B_X9_counted_241, B_X9_counted_248, fldv_8_22, fds_8_22, B_X9_counted_253, B_X9_counted_260, B_X9_counted_267, B_X9_counted_275, B_X9_counted_276, no0, no1, nz1, nz2, nz3, nz4, nz5, nz7, nz8, Classical.not_not, bz0, bz1, wi_nil, ld_0, ld_s, isIv_I, isLv_L, isRv_R, true_and, and_true, lset_0, lset_1, lset_s, avw_I, avw_L, avw_R, clr_cons, clr_nil, kst_0, kst_1, kstL_0, kstL_1, addk_I, pA_0, pA_s, pD_0, pD_s, wid_nil, wid_cons, rcv_c, putv_I, putv_L, List.length_cons, List.length_nil, List.set_cons_zero, List.set_cons_succ, not_false_eq_true, Nat.reduceMod, Nat.reduceDiv, Nat.reduceEqDiff, Nat.reduceLT, Nat.reduceLeDiff, Nat.reduceAdd, Nat.reduceSub, reduceIte, Nat.lt_irrefl, Nat.zero_ne_one, Nat.one_ne_zero, Nat.zero_add, List.nil_append, List.cons_append, Option.toList_some, Option.toList_none, forall_const, false_implies, true_implies, false_or, or_false, true_or, or_true, i_le, i_lt, i_eq, i_eq0, i_lt0, i_0le, i_0lt, i_le0, i_in1, i_cl, nI_add, pk_mul, pk_sub, i_div, i_rem, i_sh1, i_bit, i_or, i_and, i_andn, nt_le, nf_le, nt_lt, nf_lt, nt_eq, nf_eq, not_true_eq_false, and_self, and_false, false_and, eq_self, Bool.toNat_true, Bool.toNat_false, i_bool, i_bool1, Bool.false_eq_true, Bool.true_eq_false, reduceCtorEq, i_neg1, i_neg2, i_neg3, i_neg4, i_neg5, i_neg6, i_neg7, i_neg8, i_neg9, i_nega, i_negb, i_negc, i_max2, i_min2])
  refine l_mc2 (A := fb_sm (hbF Y w) (Y 6 0)) hw (by omega) h1 ?_ 6 0 rfl
  try simp (disch := omega) only [no0, no1, nz1, nz2, nz3, nz4, nz5, nz7, nz8, Classical.not_not, bz0, bz1, wi_nil, ld_0, ld_s, isIv_I, isLv_L, isRv_R, true_and, and_true, lset_0, lset_1, lset_s, avw_I, avw_L, avw_R, clr_cons, clr_nil, kst_0, kst_1, kstL_0, kstL_1, addk_I, pA_0, pA_s, pD_0, pD_s, wid_nil, wid_cons, rcv_c, putv_I, putv_L, List.length_cons, List.length_nil, List.set_cons_zero, List.set_cons_succ, not_false_eq_true, Nat.reduceMod, Nat.reduceDiv, Nat.reduceEqDiff, Nat.reduceLT, Nat.reduceLeDiff, Nat.reduceAdd, Nat.reduceSub, reduceIte, Nat.lt_irrefl, Nat.zero_ne_one, Nat.one_ne_zero, Nat.zero_add, List.nil_append, List.cons_append, Option.toList_some, Option.toList_none, forall_const, false_implies, true_implies, false_or, or_false, true_or, or_true, i_le, i_lt, i_eq, i_eq0, i_lt0, i_0le, i_0lt, i_le0, i_in1, i_cl, nI_add, pk_mul, pk_sub, i_div, i_rem, i_sh1, i_bit, i_or, i_and, i_andn, nt_le, nf_le, nt_lt, nf_lt, nt_eq, nf_eq, not_true_eq_false, and_self, and_false, false_and, eq_self, Bool.toNat_true, Bool.toNat_false, i_bool, i_bool1, Bool.false_eq_true, Bool.true_eq_false, reduceCtorEq, i_neg1, i_neg2, i_neg3, i_neg4, i_neg5, i_neg6, i_neg7, i_neg8, i_neg9, i_nega, i_negb, i_negc, i_max2, i_min2, wi_nil]
  repeat (
    first
    | refine s_X9_counted_0 ?_
    | refine s_X9_counted_27 ?_
    | refine s_X9_counted_31 ?_
    | refine s_X9_counted_45 ?_
    | refine s_X9_counted_46 ?_
    | refine s_X9_counted_75 ?_
    | refine s_X9_counted_79 ?_
    | refine s_X9_counted_80 ?_
    | refine s_X9_counted_88 ?_
    | refine s_X9_counted_116 ?_
    | refine s_X9_counted_117 ?_
    | refine s_X9_counted_125 ?_
    | refine s_X9_counted_152 ?_
    | refine s_X9_counted_153 ?_
    | refine s_X9_counted_161 ?_
    | refine s_X9_counted_188 ?_
    | refine s_X9_counted_189 ?_
    | refine s_X9_counted_197 ?_
    | refine s_X9_counted_236 ?_
    | refine s_X9_counted_241 ?_
    | refine s_X9_counted_248 ?_
    | refine s_X9_counted_253 ?_
    | refine s_X9_counted_260 ?_
    | refine s_X9_counted_267 ?_
    | refine s_X9_counted_275 ?_
    | refine s_X9_counted_276 ?_
    simp (disch := omega) only [B_X9_counted_0, wi_iconst, wi_istore_n, B_X9_counted_4, wi_iload_n, wi_aload_n, wi_getfield, fldv_8_10, fds_8_10, cnt_8, wi_icmp_ge, wi_bipush, wi_icmp_ne, fldv_8_20, fds_8_20, wi_invokevirtual, B_X9_counted_27, wi_invokestatic, B_X9_counted_31, wi_if_eq, wi_iadd, wi_iaload, wi_goto, cnt_31, aTy_31, aLn_31, arr_31, cnt_34, aTy_34, aLn_34, arr_34, cnt_36, aTy_36, aLn_36, arr_36, cnt_40, aTy_40, aLn_40, arr_40, cnt_43, aTy_43, aLn_43, arr_43, bsv_43, B_X9_counted_45, B_X9_counted_46, fldv_8_11, fds_8_11, wi_icmp_eq, B_X9_counted_75, B_X9_counted_79, B_X9_counted_80, wi_iinc, B_X9_counted_88, B_X9_counted_90, fldv_8_5, fds_8_5, wi_if_lt, B_X9_counted_116, B_X9_counted_117, B_X9_counted_125, B_X9_counted_127, fldv_8_8, fds_8_8, B_X9_counted_152, B_X9_counted_153, B_X9_counted_161, B_X9_counted_163, fldv_8_24, fds_8_24, wi_baload, B_X9_counted_188, B_X9_counted_189, B_X9_counted_197, wi_tsw, B_X9_counted_236, wi_ireturn, B_X9_counted_241, B_X9_counted_248, fldv_8_22, fds_8_22, B_X9_counted_253, B_X9_counted_260, B_X9_counted_267, B_X9_counted_275, B_X9_counted_276, no0, no1, nz1, nz2, nz3, nz4, nz5, nz7, nz8, Classical.not_not, bz0, bz1, wi_nil, ld_0, ld_s, isIv_I, isLv_L, isRv_R, true_and, and_true, lset_0, lset_1, lset_s, avw_I, avw_L, avw_R, clr_cons, clr_nil, kst_0, kst_1, kstL_0, kstL_1, addk_I, pA_0, pA_s, pD_0, pD_s, wid_nil, wid_cons, rcv_c, putv_I, putv_L, List.length_cons, List.length_nil, List.set_cons_zero, List.set_cons_succ, not_false_eq_true, Nat.reduceMod, Nat.reduceDiv, Nat.reduceEqDiff, Nat.reduceLT, Nat.reduceLeDiff, Nat.reduceAdd, Nat.reduceSub, reduceIte, Nat.lt_irrefl, Nat.zero_ne_one, Nat.one_ne_zero, Nat.zero_add, List.nil_append, List.cons_append, Option.toList_some, Option.toList_none, forall_const, false_implies, true_implies, false_or, or_false, true_or, or_true, i_le, i_lt, i_eq, i_eq0, i_lt0, i_0le, i_0lt, i_le0, i_in1, i_cl, nI_add, pk_mul, pk_sub, i_div, i_rem, i_sh1, i_bit, i_or, i_and, i_andn, nt_le, nf_le, nt_lt, nf_lt, nt_eq, nf_eq, not_true_eq_false, and_self, and_false, false_and, eq_self, Bool.toNat_true, Bool.toNat_false, i_bool, i_bool1, Bool.false_eq_true, Bool.true_eq_false, reduceCtorEq, i_neg1, i_neg2, i_neg3, i_neg4, i_neg5, i_neg6, i_neg7, i_neg8, i_neg9, i_nega, i_negb, i_negc, i_max2, i_min2])
  refine l_mc3 (A := fb_sm (hbF Y w) (Y 6 0) + fb_sm (ifw w 8 rs) 6) hw (by omega) h2 ?_ 4 0 rfl
  try simp (disch := omega) only [no0, no1, nz1, nz2, nz3, nz4, nz5, nz7, nz8, Classical.not_not, bz0, bz1, wi_nil, ld_0, ld_s, isIv_I, isLv_L, isRv_R, true_and, and_true, lset_0, lset_1, lset_s, avw_I, avw_L, avw_R, clr_cons, clr_nil, kst_0, kst_1, kstL_0, kstL_1, addk_I, pA_0, pA_s, pD_0, pD_s, wid_nil, wid_cons, rcv_c, putv_I, putv_L, List.length_cons, List.length_nil, List.set_cons_zero, List.set_cons_succ, not_false_eq_true, Nat.reduceMod, Nat.reduceDiv, Nat.reduceEqDiff, Nat.reduceLT, Nat.reduceLeDiff, Nat.reduceAdd, Nat.reduceSub, reduceIte, Nat.lt_irrefl, Nat.zero_ne_one, Nat.one_ne_zero, Nat.zero_add, List.nil_append, List.cons_append, Option.toList_some, Option.toList_none, forall_const, false_implies, true_implies, false_or, or_false, true_or, or_true, i_le, i_lt, i_eq, i_eq0, i_lt0, i_0le, i_0lt, i_le0, i_in1, i_cl, nI_add, pk_mul, pk_sub, i_div, i_rem, i_sh1, i_bit, i_or, i_and, i_andn, nt_le, nf_le, nt_lt, nf_lt, nt_eq, nf_eq, not_true_eq_false, and_self, and_false, false_and, eq_self, Bool.toNat_true, Bool.toNat_false, i_bool, i_bool1, Bool.false_eq_true, Bool.true_eq_false, reduceCtorEq, i_neg1, i_neg2, i_neg3, i_neg4, i_neg5, i_neg6, i_neg7, i_neg8, i_neg9, i_nega, i_negb, i_negc, i_max2, i_min2, wi_nil]
  repeat (
    first
    | refine s_X9_counted_0 ?_
    | refine s_X9_counted_27 ?_
    | refine s_X9_counted_31 ?_
    | refine s_X9_counted_45 ?_
    | refine s_X9_counted_46 ?_
    | refine s_X9_counted_75 ?_
    | refine s_X9_counted_79 ?_
    | refine s_X9_counted_80 ?_
    | refine s_X9_counted_88 ?_
    | refine s_X9_counted_116 ?_
    | refine s_X9_counted_117 ?_
    | refine s_X9_counted_125 ?_
    | refine s_X9_counted_152 ?_
    | refine s_X9_counted_153 ?_
    | refine s_X9_counted_161 ?_
    | refine s_X9_counted_188 ?_
    | refine s_X9_counted_189 ?_
    | refine s_X9_counted_197 ?_
    | refine s_X9_counted_236 ?_
    | refine s_X9_counted_241 ?_
    | refine s_X9_counted_248 ?_
    | refine s_X9_counted_253 ?_
    | refine s_X9_counted_260 ?_
    | refine s_X9_counted_267 ?_
    | refine s_X9_counted_275 ?_
    | refine s_X9_counted_276 ?_
    simp (disch := omega) only [B_X9_counted_0, wi_iconst, wi_istore_n, B_X9_counted_4, wi_iload_n, wi_aload_n, wi_getfield, fldv_8_10, fds_8_10, cnt_8, wi_icmp_ge, wi_bipush, wi_icmp_ne, fldv_8_20, fds_8_20, wi_invokevirtual, B_X9_counted_27, wi_invokestatic, B_X9_counted_31, wi_if_eq, wi_iadd, wi_iaload, wi_goto, cnt_31, aTy_31, aLn_31, arr_31, cnt_34, aTy_34, aLn_34, arr_34, cnt_36, aTy_36, aLn_36, arr_36, cnt_40, aTy_40, aLn_40, arr_40, cnt_43, aTy_43, aLn_43, arr_43, bsv_43, B_X9_counted_45, B_X9_counted_46, fldv_8_11, fds_8_11, wi_icmp_eq, B_X9_counted_75, B_X9_counted_79, B_X9_counted_80, wi_iinc, B_X9_counted_88, B_X9_counted_90, fldv_8_5, fds_8_5, wi_if_lt, B_X9_counted_116, B_X9_counted_117, B_X9_counted_125, B_X9_counted_127, fldv_8_8, fds_8_8, B_X9_counted_152, B_X9_counted_153, B_X9_counted_161, B_X9_counted_163, fldv_8_24, fds_8_24, wi_baload, B_X9_counted_188, B_X9_counted_189, B_X9_counted_197, wi_tsw, B_X9_counted_236, wi_ireturn, B_X9_counted_241, B_X9_counted_248, fldv_8_22, fds_8_22, B_X9_counted_253, B_X9_counted_260, B_X9_counted_267, B_X9_counted_275, B_X9_counted_276, no0, no1, nz1, nz2, nz3, nz4, nz5, nz7, nz8, Classical.not_not, bz0, bz1, wi_nil, ld_0, ld_s, isIv_I, isLv_L, isRv_R, true_and, and_true, lset_0, lset_1, lset_s, avw_I, avw_L, avw_R, clr_cons, clr_nil, kst_0, kst_1, kstL_0, kstL_1, addk_I, pA_0, pA_s, pD_0, pD_s, wid_nil, wid_cons, rcv_c, putv_I, putv_L, List.length_cons, List.length_nil, List.set_cons_zero, List.set_cons_succ, not_false_eq_true, Nat.reduceMod, Nat.reduceDiv, Nat.reduceEqDiff, Nat.reduceLT, Nat.reduceLeDiff, Nat.reduceAdd, Nat.reduceSub, reduceIte, Nat.lt_irrefl, Nat.zero_ne_one, Nat.one_ne_zero, Nat.zero_add, List.nil_append, List.cons_append, Option.toList_some, Option.toList_none, forall_const, false_implies, true_implies, false_or, or_false, true_or, or_true, i_le, i_lt, i_eq, i_eq0, i_lt0, i_0le, i_0lt, i_le0, i_in1, i_cl, nI_add, pk_mul, pk_sub, i_div, i_rem, i_sh1, i_bit, i_or, i_and, i_andn, nt_le, nf_le, nt_lt, nf_lt, nt_eq, nf_eq, not_true_eq_false, and_self, and_false, false_and, eq_self, Bool.toNat_true, Bool.toNat_false, i_bool, i_bool1, Bool.false_eq_true, Bool.true_eq_false, reduceCtorEq, i_neg1, i_neg2, i_neg3, i_neg4, i_neg5, i_neg6, i_neg7, i_neg8, i_neg9, i_nega, i_negb, i_negc, i_max2, i_min2])
  refine l_mc4 (A := fb_sm (hbF Y w) (Y 6 0) + fb_sm (ifw w 8 rs) 6 + fb_sm (ifw w 9 ts) 4) hw (by omega) h3 ?_ 3 0 rfl
  refine s_X9_counted_197 ?_
  simp (disch := omega) only [B_X9_counted_197, wi_iload_n, wi_tsw, no0, no1, nz1, nz2, nz3, nz4, nz5, nz7, nz8, Classical.not_not, bz0, bz1, wi_nil, ld_0, ld_s, isIv_I, isLv_L, isRv_R, true_and, and_true, lset_0, lset_1, lset_s, avw_I, avw_L, avw_R, clr_cons, clr_nil, kst_0, kst_1, kstL_0, kstL_1, addk_I, pA_0, pA_s, pD_0, pD_s, wid_nil, wid_cons, rcv_c, putv_I, putv_L, List.length_cons, List.length_nil, List.set_cons_zero, List.set_cons_succ, not_false_eq_true, Nat.reduceMod, Nat.reduceDiv, Nat.reduceEqDiff, Nat.reduceLT, Nat.reduceLeDiff, Nat.reduceAdd, Nat.reduceSub, reduceIte, Nat.lt_irrefl, Nat.zero_ne_one, Nat.one_ne_zero, Nat.zero_add, List.nil_append, List.cons_append, Option.toList_some, Option.toList_none, forall_const, false_implies, true_implies, false_or, or_false, true_or, or_true, i_le, i_lt, i_eq, i_eq0, i_lt0, i_0le, i_0lt, i_le0, i_in1, i_cl, nI_add, pk_mul, pk_sub, i_div, i_rem, i_sh1, i_bit, i_or, i_and, i_andn, nt_le, nf_le, nt_lt, nf_lt, nt_eq, nf_eq, not_true_eq_false, and_self, and_false, false_and, eq_self, Bool.toNat_true, Bool.toNat_false, i_bool, i_bool1, Bool.false_eq_true, Bool.true_eq_false, reduceCtorEq, i_neg1, i_neg2, i_neg3, i_neg4, i_neg5, i_neg6, i_neg7, i_neg8, i_neg9, i_nega, i_negb, i_negc, i_max2, i_min2]
  rcases (show w = 0 ∨ w = 1 ∨ w = 2 ∨ w = 3 ∨ w = 4 ∨ w = 5 ∨ w = 6 ∨ w = 7 ∨ w = 8 ∨ w = 9 ∨ w = 10 by omega) with rfl | rfl | rfl | rfl | rfl | rfl | rfl | rfl | rfl | rfl | rfl
  · rw [show swt 198 78 0 5 #[38, 43, 50, 55, 62, 69] (nI 0) = 236 from by decide +kernel]
    try simp (disch := omega) only [no0, no1, nz1, nz2, nz3, nz4, nz5, nz7, nz8, Classical.not_not, bz0, bz1, wi_nil, ld_0, ld_s, isIv_I, isLv_L, isRv_R, true_and, and_true, lset_0, lset_1, lset_s, avw_I, avw_L, avw_R, clr_cons, clr_nil, kst_0, kst_1, kstL_0, kstL_1, addk_I, pA_0, pA_s, pD_0, pD_s, wid_nil, wid_cons, rcv_c, putv_I, putv_L, List.length_cons, List.length_nil, List.set_cons_zero, List.set_cons_succ, not_false_eq_true, Nat.reduceMod, Nat.reduceDiv, Nat.reduceEqDiff, Nat.reduceLT, Nat.reduceLeDiff, Nat.reduceAdd, Nat.reduceSub, reduceIte, Nat.lt_irrefl, Nat.zero_ne_one, Nat.one_ne_zero, Nat.zero_add, List.nil_append, List.cons_append, Option.toList_some, Option.toList_none, forall_const, false_implies, true_implies, false_or, or_false, true_or, or_true, i_le, i_lt, i_eq, i_eq0, i_lt0, i_0le, i_0lt, i_le0, i_in1, i_cl, nI_add, pk_mul, pk_sub, i_div, i_rem, i_sh1, i_bit, i_or, i_and, i_andn, nt_le, nf_le, nt_lt, nf_lt, nt_eq, nf_eq, not_true_eq_false, and_self, and_false, false_and, eq_self, Bool.toNat_true, Bool.toNat_false, i_bool, i_bool1, Bool.false_eq_true, Bool.true_eq_false, reduceCtorEq, i_neg1, i_neg2, i_neg3, i_neg4, i_neg5, i_neg6, i_neg7, i_neg8, i_neg9, i_nega, i_negb, i_negc, i_max2, i_min2, (m_n hm), wi_nil]
    repeat (
      first
      | refine s_X9_counted_0 ?_
      | refine s_X9_counted_27 ?_
      | refine s_X9_counted_31 ?_
      | refine s_X9_counted_45 ?_
      | refine s_X9_counted_46 ?_
      | refine s_X9_counted_75 ?_
      | refine s_X9_counted_79 ?_
      | refine s_X9_counted_80 ?_
      | refine s_X9_counted_88 ?_
      | refine s_X9_counted_116 ?_
      | refine s_X9_counted_117 ?_
      | refine s_X9_counted_125 ?_
      | refine s_X9_counted_152 ?_
      | refine s_X9_counted_153 ?_
      | refine s_X9_counted_161 ?_
      | refine s_X9_counted_188 ?_
      | refine s_X9_counted_189 ?_
      | refine s_X9_counted_197 ?_
      | refine s_X9_counted_236 ?_
      | refine s_X9_counted_241 ?_
      | refine s_X9_counted_248 ?_
      | refine s_X9_counted_253 ?_
      | refine s_X9_counted_260 ?_
      | refine s_X9_counted_267 ?_
      | refine s_X9_counted_275 ?_
      | refine s_X9_counted_276 ?_
      simp (disch := omega) only [B_X9_counted_0, wi_iconst, wi_istore_n, B_X9_counted_4, wi_iload_n, wi_aload_n, wi_getfield, fldv_8_10, fds_8_10, cnt_8, wi_icmp_ge, wi_bipush, wi_icmp_ne, fldv_8_20, fds_8_20, wi_invokevirtual, B_X9_counted_27, wi_invokestatic, B_X9_counted_31, wi_if_eq, wi_iadd, wi_iaload, wi_goto, cnt_31, aTy_31, aLn_31, arr_31, cnt_34, aTy_34, aLn_34, arr_34, cnt_36, aTy_36, aLn_36, arr_36, cnt_40, aTy_40, aLn_40, arr_40, cnt_43, aTy_43, aLn_43, arr_43, bsv_43, B_X9_counted_45, B_X9_counted_46, fldv_8_11, fds_8_11, wi_icmp_eq, B_X9_counted_75, B_X9_counted_79, B_X9_counted_80, wi_iinc, B_X9_counted_88, B_X9_counted_90, fldv_8_5, fds_8_5, wi_if_lt, B_X9_counted_116, B_X9_counted_117, B_X9_counted_125, B_X9_counted_127, fldv_8_8, fds_8_8, B_X9_counted_152, B_X9_counted_153, B_X9_counted_161, B_X9_counted_163, fldv_8_24, fds_8_24, wi_baload, B_X9_counted_188, B_X9_counted_189, B_X9_counted_197, wi_tsw, B_X9_counted_236, wi_ireturn, B_X9_counted_241, B_X9_counted_248, fldv_8_22, fds_8_22, B_X9_counted_253, B_X9_counted_260, B_X9_counted_267, B_X9_counted_275, B_X9_counted_276, no0, no1, nz1, nz2, nz3, nz4, nz5, nz7, nz8, Classical.not_not, bz0, bz1, wi_nil, ld_0, ld_s, isIv_I, isLv_L, isRv_R, true_and, and_true, lset_0, lset_1, lset_s, avw_I, avw_L, avw_R, clr_cons, clr_nil, kst_0, kst_1, kstL_0, kstL_1, addk_I, pA_0, pA_s, pD_0, pD_s, wid_nil, wid_cons, rcv_c, putv_I, putv_L, List.length_cons, List.length_nil, List.set_cons_zero, List.set_cons_succ, not_false_eq_true, Nat.reduceMod, Nat.reduceDiv, Nat.reduceEqDiff, Nat.reduceLT, Nat.reduceLeDiff, Nat.reduceAdd, Nat.reduceSub, reduceIte, Nat.lt_irrefl, Nat.zero_ne_one, Nat.one_ne_zero, Nat.zero_add, List.nil_append, List.cons_append, Option.toList_some, Option.toList_none, forall_const, false_implies, true_implies, false_or, or_false, true_or, or_true, i_le, i_lt, i_eq, i_eq0, i_lt0, i_0le, i_0lt, i_le0, i_in1, i_cl, nI_add, pk_mul, pk_sub, i_div, i_rem, i_sh1, i_bit, i_or, i_and, i_andn, nt_le, nf_le, nt_lt, nf_lt, nt_eq, nf_eq, not_true_eq_false, and_self, and_false, false_and, eq_self, Bool.toNat_true, Bool.toNat_false, i_bool, i_bool1, Bool.false_eq_true, Bool.true_eq_false, reduceCtorEq, i_neg1, i_neg2, i_neg3, i_neg4, i_neg5, i_neg6, i_neg7, i_neg8, i_neg9, i_nega, i_negb, i_negc, i_max2, i_min2, (m_n hm)])
    exact q
  · rw [show swt 198 78 0 5 #[38, 43, 50, 55, 62, 69] (nI 1) = 241 from by decide +kernel]
    try simp (disch := omega) only [no0, no1, nz1, nz2, nz3, nz4, nz5, nz7, nz8, Classical.not_not, bz0, bz1, wi_nil, ld_0, ld_s, isIv_I, isLv_L, isRv_R, true_and, and_true, lset_0, lset_1, lset_s, avw_I, avw_L, avw_R, clr_cons, clr_nil, kst_0, kst_1, kstL_0, kstL_1, addk_I, pA_0, pA_s, pD_0, pD_s, wid_nil, wid_cons, rcv_c, putv_I, putv_L, List.length_cons, List.length_nil, List.set_cons_zero, List.set_cons_succ, not_false_eq_true, Nat.reduceMod, Nat.reduceDiv, Nat.reduceEqDiff, Nat.reduceLT, Nat.reduceLeDiff, Nat.reduceAdd, Nat.reduceSub, reduceIte, Nat.lt_irrefl, Nat.zero_ne_one, Nat.one_ne_zero, Nat.zero_add, List.nil_append, List.cons_append, Option.toList_some, Option.toList_none, forall_const, false_implies, true_implies, false_or, or_false, true_or, or_true, i_le, i_lt, i_eq, i_eq0, i_lt0, i_0le, i_0lt, i_le0, i_in1, i_cl, nI_add, pk_mul, pk_sub, i_div, i_rem, i_sh1, i_bit, i_or, i_and, i_andn, nt_le, nf_le, nt_lt, nf_lt, nt_eq, nf_eq, not_true_eq_false, and_self, and_false, false_and, eq_self, Bool.toNat_true, Bool.toNat_false, i_bool, i_bool1, Bool.false_eq_true, Bool.true_eq_false, reduceCtorEq, i_neg1, i_neg2, i_neg3, i_neg4, i_neg5, i_neg6, i_neg7, i_neg8, i_neg9, i_nega, i_negb, i_negc, i_max2, i_min2, (m_day hm), wi_nil]
    repeat (
      first
      | refine s_X9_counted_0 ?_
      | refine s_X9_counted_27 ?_
      | refine s_X9_counted_31 ?_
      | refine s_X9_counted_45 ?_
      | refine s_X9_counted_46 ?_
      | refine s_X9_counted_75 ?_
      | refine s_X9_counted_79 ?_
      | refine s_X9_counted_80 ?_
      | refine s_X9_counted_88 ?_
      | refine s_X9_counted_116 ?_
      | refine s_X9_counted_117 ?_
      | refine s_X9_counted_125 ?_
      | refine s_X9_counted_152 ?_
      | refine s_X9_counted_153 ?_
      | refine s_X9_counted_161 ?_
      | refine s_X9_counted_188 ?_
      | refine s_X9_counted_189 ?_
      | refine s_X9_counted_197 ?_
      | refine s_X9_counted_236 ?_
      | refine s_X9_counted_241 ?_
      | refine s_X9_counted_248 ?_
      | refine s_X9_counted_253 ?_
      | refine s_X9_counted_260 ?_
      | refine s_X9_counted_267 ?_
      | refine s_X9_counted_275 ?_
      | refine s_X9_counted_276 ?_
      simp (disch := omega) only [B_X9_counted_0, wi_iconst, wi_istore_n, B_X9_counted_4, wi_iload_n, wi_aload_n, wi_getfield, fldv_8_10, fds_8_10, cnt_8, wi_icmp_ge, wi_bipush, wi_icmp_ne, fldv_8_20, fds_8_20, wi_invokevirtual, B_X9_counted_27, wi_invokestatic, B_X9_counted_31, wi_if_eq, wi_iadd, wi_iaload, wi_goto, cnt_31, aTy_31, aLn_31, arr_31, cnt_34, aTy_34, aLn_34, arr_34, cnt_36, aTy_36, aLn_36, arr_36, cnt_40, aTy_40, aLn_40, arr_40, cnt_43, aTy_43, aLn_43, arr_43, bsv_43, B_X9_counted_45, B_X9_counted_46, fldv_8_11, fds_8_11, wi_icmp_eq, B_X9_counted_75, B_X9_counted_79, B_X9_counted_80, wi_iinc, B_X9_counted_88, B_X9_counted_90, fldv_8_5, fds_8_5, wi_if_lt, B_X9_counted_116, B_X9_counted_117, B_X9_counted_125, B_X9_counted_127, fldv_8_8, fds_8_8, B_X9_counted_152, B_X9_counted_153, B_X9_counted_161, B_X9_counted_163, fldv_8_24, fds_8_24, wi_baload, B_X9_counted_188, B_X9_counted_189, B_X9_counted_197, wi_tsw, B_X9_counted_236, wi_ireturn, B_X9_counted_241, B_X9_counted_248, fldv_8_22, fds_8_22, B_X9_counted_253, B_X9_counted_260, B_X9_counted_267, B_X9_counted_275, B_X9_counted_276, no0, no1, nz1, nz2, nz3, nz4, nz5, nz7, nz8, Classical.not_not, bz0, bz1, wi_nil, ld_0, ld_s, isIv_I, isLv_L, isRv_R, true_and, and_true, lset_0, lset_1, lset_s, avw_I, avw_L, avw_R, clr_cons, clr_nil, kst_0, kst_1, kstL_0, kstL_1, addk_I, pA_0, pA_s, pD_0, pD_s, wid_nil, wid_cons, rcv_c, putv_I, putv_L, List.length_cons, List.length_nil, List.set_cons_zero, List.set_cons_succ, not_false_eq_true, Nat.reduceMod, Nat.reduceDiv, Nat.reduceEqDiff, Nat.reduceLT, Nat.reduceLeDiff, Nat.reduceAdd, Nat.reduceSub, reduceIte, Nat.lt_irrefl, Nat.zero_ne_one, Nat.one_ne_zero, Nat.zero_add, List.nil_append, List.cons_append, Option.toList_some, Option.toList_none, forall_const, false_implies, true_implies, false_or, or_false, true_or, or_true, i_le, i_lt, i_eq, i_eq0, i_lt0, i_0le, i_0lt, i_le0, i_in1, i_cl, nI_add, pk_mul, pk_sub, i_div, i_rem, i_sh1, i_bit, i_or, i_and, i_andn, nt_le, nf_le, nt_lt, nf_lt, nt_eq, nf_eq, not_true_eq_false, and_self, and_false, false_and, eq_self, Bool.toNat_true, Bool.toNat_false, i_bool, i_bool1, Bool.false_eq_true, Bool.true_eq_false, reduceCtorEq, i_neg1, i_neg2, i_neg3, i_neg4, i_neg5, i_neg6, i_neg7, i_neg8, i_neg9, i_nega, i_negb, i_negc, i_max2, i_min2, (m_day hm)])
    exact q
  · rw [show swt 198 78 0 5 #[38, 43, 50, 55, 62, 69] (nI 2) = 248 from by decide +kernel]
    try simp (disch := omega) only [no0, no1, nz1, nz2, nz3, nz4, nz5, nz7, nz8, Classical.not_not, bz0, bz1, wi_nil, ld_0, ld_s, isIv_I, isLv_L, isRv_R, true_and, and_true, lset_0, lset_1, lset_s, avw_I, avw_L, avw_R, clr_cons, clr_nil, kst_0, kst_1, kstL_0, kstL_1, addk_I, pA_0, pA_s, pD_0, pD_s, wid_nil, wid_cons, rcv_c, putv_I, putv_L, List.length_cons, List.length_nil, List.set_cons_zero, List.set_cons_succ, not_false_eq_true, Nat.reduceMod, Nat.reduceDiv, Nat.reduceEqDiff, Nat.reduceLT, Nat.reduceLeDiff, Nat.reduceAdd, Nat.reduceSub, reduceIte, Nat.lt_irrefl, Nat.zero_ne_one, Nat.one_ne_zero, Nat.zero_add, List.nil_append, List.cons_append, Option.toList_some, Option.toList_none, forall_const, false_implies, true_implies, false_or, or_false, true_or, or_true, i_le, i_lt, i_eq, i_eq0, i_lt0, i_0le, i_0lt, i_le0, i_in1, i_cl, nI_add, pk_mul, pk_sub, i_div, i_rem, i_sh1, i_bit, i_or, i_and, i_andn, nt_le, nf_le, nt_lt, nf_lt, nt_eq, nf_eq, not_true_eq_false, and_self, and_false, false_and, eq_self, Bool.toNat_true, Bool.toNat_false, i_bool, i_bool1, Bool.false_eq_true, Bool.true_eq_false, reduceCtorEq, i_neg1, i_neg2, i_neg3, i_neg4, i_neg5, i_neg6, i_neg7, i_neg8, i_neg9, i_nega, i_negb, i_negc, i_max2, i_min2, hL, wi_nil]
    repeat (
      first
      | refine s_X9_counted_0 ?_
      | refine s_X9_counted_27 ?_
      | refine s_X9_counted_31 ?_
      | refine s_X9_counted_45 ?_
      | refine s_X9_counted_46 ?_
      | refine s_X9_counted_75 ?_
      | refine s_X9_counted_79 ?_
      | refine s_X9_counted_80 ?_
      | refine s_X9_counted_88 ?_
      | refine s_X9_counted_116 ?_
      | refine s_X9_counted_117 ?_
      | refine s_X9_counted_125 ?_
      | refine s_X9_counted_152 ?_
      | refine s_X9_counted_153 ?_
      | refine s_X9_counted_161 ?_
      | refine s_X9_counted_188 ?_
      | refine s_X9_counted_189 ?_
      | refine s_X9_counted_197 ?_
      | refine s_X9_counted_236 ?_
      | refine s_X9_counted_241 ?_
      | refine s_X9_counted_248 ?_
      | refine s_X9_counted_253 ?_
      | refine s_X9_counted_260 ?_
      | refine s_X9_counted_267 ?_
      | refine s_X9_counted_275 ?_
      | refine s_X9_counted_276 ?_
      simp (disch := omega) only [B_X9_counted_0, wi_iconst, wi_istore_n, B_X9_counted_4, wi_iload_n, wi_aload_n, wi_getfield, fldv_8_10, fds_8_10, cnt_8, wi_icmp_ge, wi_bipush, wi_icmp_ne, fldv_8_20, fds_8_20, wi_invokevirtual, B_X9_counted_27, wi_invokestatic, B_X9_counted_31, wi_if_eq, wi_iadd, wi_iaload, wi_goto, cnt_31, aTy_31, aLn_31, arr_31, cnt_34, aTy_34, aLn_34, arr_34, cnt_36, aTy_36, aLn_36, arr_36, cnt_40, aTy_40, aLn_40, arr_40, cnt_43, aTy_43, aLn_43, arr_43, bsv_43, B_X9_counted_45, B_X9_counted_46, fldv_8_11, fds_8_11, wi_icmp_eq, B_X9_counted_75, B_X9_counted_79, B_X9_counted_80, wi_iinc, B_X9_counted_88, B_X9_counted_90, fldv_8_5, fds_8_5, wi_if_lt, B_X9_counted_116, B_X9_counted_117, B_X9_counted_125, B_X9_counted_127, fldv_8_8, fds_8_8, B_X9_counted_152, B_X9_counted_153, B_X9_counted_161, B_X9_counted_163, fldv_8_24, fds_8_24, wi_baload, B_X9_counted_188, B_X9_counted_189, B_X9_counted_197, wi_tsw, B_X9_counted_236, wi_ireturn, B_X9_counted_241, B_X9_counted_248, fldv_8_22, fds_8_22, B_X9_counted_253, B_X9_counted_260, B_X9_counted_267, B_X9_counted_275, B_X9_counted_276, no0, no1, nz1, nz2, nz3, nz4, nz5, nz7, nz8, Classical.not_not, bz0, bz1, wi_nil, ld_0, ld_s, isIv_I, isLv_L, isRv_R, true_and, and_true, lset_0, lset_1, lset_s, avw_I, avw_L, avw_R, clr_cons, clr_nil, kst_0, kst_1, kstL_0, kstL_1, addk_I, pA_0, pA_s, pD_0, pD_s, wid_nil, wid_cons, rcv_c, putv_I, putv_L, List.length_cons, List.length_nil, List.set_cons_zero, List.set_cons_succ, not_false_eq_true, Nat.reduceMod, Nat.reduceDiv, Nat.reduceEqDiff, Nat.reduceLT, Nat.reduceLeDiff, Nat.reduceAdd, Nat.reduceSub, reduceIte, Nat.lt_irrefl, Nat.zero_ne_one, Nat.one_ne_zero, Nat.zero_add, List.nil_append, List.cons_append, Option.toList_some, Option.toList_none, forall_const, false_implies, true_implies, false_or, or_false, true_or, or_true, i_le, i_lt, i_eq, i_eq0, i_lt0, i_0le, i_0lt, i_le0, i_in1, i_cl, nI_add, pk_mul, pk_sub, i_div, i_rem, i_sh1, i_bit, i_or, i_and, i_andn, nt_le, nf_le, nt_lt, nf_lt, nt_eq, nf_eq, not_true_eq_false, and_self, and_false, false_and, eq_self, Bool.toNat_true, Bool.toNat_false, i_bool, i_bool1, Bool.false_eq_true, Bool.true_eq_false, reduceCtorEq, i_neg1, i_neg2, i_neg3, i_neg4, i_neg5, i_neg6, i_neg7, i_neg8, i_neg9, i_nega, i_negb, i_negc, i_max2, i_min2, hL])
    exact q
  · rw [show swt 198 78 0 5 #[38, 43, 50, 55, 62, 69] (nI 3) = 253 from by decide +kernel]
    try simp (disch := omega) only [no0, no1, nz1, nz2, nz3, nz4, nz5, nz7, nz8, Classical.not_not, bz0, bz1, wi_nil, ld_0, ld_s, isIv_I, isLv_L, isRv_R, true_and, and_true, lset_0, lset_1, lset_s, avw_I, avw_L, avw_R, clr_cons, clr_nil, kst_0, kst_1, kstL_0, kstL_1, addk_I, pA_0, pA_s, pD_0, pD_s, wid_nil, wid_cons, rcv_c, putv_I, putv_L, List.length_cons, List.length_nil, List.set_cons_zero, List.set_cons_succ, not_false_eq_true, Nat.reduceMod, Nat.reduceDiv, Nat.reduceEqDiff, Nat.reduceLT, Nat.reduceLeDiff, Nat.reduceAdd, Nat.reduceSub, reduceIte, Nat.lt_irrefl, Nat.zero_ne_one, Nat.one_ne_zero, Nat.zero_add, List.nil_append, List.cons_append, Option.toList_some, Option.toList_none, forall_const, false_implies, true_implies, false_or, or_false, true_or, or_true, i_le, i_lt, i_eq, i_eq0, i_lt0, i_0le, i_0lt, i_le0, i_in1, i_cl, nI_add, pk_mul, pk_sub, i_div, i_rem, i_sh1, i_bit, i_or, i_and, i_andn, nt_le, nf_le, nt_lt, nf_lt, nt_eq, nf_eq, not_true_eq_false, and_self, and_false, false_and, eq_self, Bool.toNat_true, Bool.toNat_false, i_bool, i_bool1, Bool.false_eq_true, Bool.true_eq_false, reduceCtorEq, i_neg1, i_neg2, i_neg3, i_neg4, i_neg5, i_neg6, i_neg7, i_neg8, i_neg9, i_nega, i_negb, i_negc, i_max2, i_min2, (m_will hm), wi_nil]
    repeat (
      first
      | refine s_X9_counted_0 ?_
      | refine s_X9_counted_27 ?_
      | refine s_X9_counted_31 ?_
      | refine s_X9_counted_45 ?_
      | refine s_X9_counted_46 ?_
      | refine s_X9_counted_75 ?_
      | refine s_X9_counted_79 ?_
      | refine s_X9_counted_80 ?_
      | refine s_X9_counted_88 ?_
      | refine s_X9_counted_116 ?_
      | refine s_X9_counted_117 ?_
      | refine s_X9_counted_125 ?_
      | refine s_X9_counted_152 ?_
      | refine s_X9_counted_153 ?_
      | refine s_X9_counted_161 ?_
      | refine s_X9_counted_188 ?_
      | refine s_X9_counted_189 ?_
      | refine s_X9_counted_197 ?_
      | refine s_X9_counted_236 ?_
      | refine s_X9_counted_241 ?_
      | refine s_X9_counted_248 ?_
      | refine s_X9_counted_253 ?_
      | refine s_X9_counted_260 ?_
      | refine s_X9_counted_267 ?_
      | refine s_X9_counted_275 ?_
      | refine s_X9_counted_276 ?_
      simp (disch := omega) only [B_X9_counted_0, wi_iconst, wi_istore_n, B_X9_counted_4, wi_iload_n, wi_aload_n, wi_getfield, fldv_8_10, fds_8_10, cnt_8, wi_icmp_ge, wi_bipush, wi_icmp_ne, fldv_8_20, fds_8_20, wi_invokevirtual, B_X9_counted_27, wi_invokestatic, B_X9_counted_31, wi_if_eq, wi_iadd, wi_iaload, wi_goto, cnt_31, aTy_31, aLn_31, arr_31, cnt_34, aTy_34, aLn_34, arr_34, cnt_36, aTy_36, aLn_36, arr_36, cnt_40, aTy_40, aLn_40, arr_40, cnt_43, aTy_43, aLn_43, arr_43, bsv_43, B_X9_counted_45, B_X9_counted_46, fldv_8_11, fds_8_11, wi_icmp_eq, B_X9_counted_75, B_X9_counted_79, B_X9_counted_80, wi_iinc, B_X9_counted_88, B_X9_counted_90, fldv_8_5, fds_8_5, wi_if_lt, B_X9_counted_116, B_X9_counted_117, B_X9_counted_125, B_X9_counted_127, fldv_8_8, fds_8_8, B_X9_counted_152, B_X9_counted_153, B_X9_counted_161, B_X9_counted_163, fldv_8_24, fds_8_24, wi_baload, B_X9_counted_188, B_X9_counted_189, B_X9_counted_197, wi_tsw, B_X9_counted_236, wi_ireturn, B_X9_counted_241, B_X9_counted_248, fldv_8_22, fds_8_22, B_X9_counted_253, B_X9_counted_260, B_X9_counted_267, B_X9_counted_275, B_X9_counted_276, no0, no1, nz1, nz2, nz3, nz4, nz5, nz7, nz8, Classical.not_not, bz0, bz1, wi_nil, ld_0, ld_s, isIv_I, isLv_L, isRv_R, true_and, and_true, lset_0, lset_1, lset_s, avw_I, avw_L, avw_R, clr_cons, clr_nil, kst_0, kst_1, kstL_0, kstL_1, addk_I, pA_0, pA_s, pD_0, pD_s, wid_nil, wid_cons, rcv_c, putv_I, putv_L, List.length_cons, List.length_nil, List.set_cons_zero, List.set_cons_succ, not_false_eq_true, Nat.reduceMod, Nat.reduceDiv, Nat.reduceEqDiff, Nat.reduceLT, Nat.reduceLeDiff, Nat.reduceAdd, Nat.reduceSub, reduceIte, Nat.lt_irrefl, Nat.zero_ne_one, Nat.one_ne_zero, Nat.zero_add, List.nil_append, List.cons_append, Option.toList_some, Option.toList_none, forall_const, false_implies, true_implies, false_or, or_false, true_or, or_true, i_le, i_lt, i_eq, i_eq0, i_lt0, i_0le, i_0lt, i_le0, i_in1, i_cl, nI_add, pk_mul, pk_sub, i_div, i_rem, i_sh1, i_bit, i_or, i_and, i_andn, nt_le, nf_le, nt_lt, nf_lt, nt_eq, nf_eq, not_true_eq_false, and_self, and_false, false_and, eq_self, Bool.toNat_true, Bool.toNat_false, i_bool, i_bool1, Bool.false_eq_true, Bool.true_eq_false, reduceCtorEq, i_neg1, i_neg2, i_neg3, i_neg4, i_neg5, i_neg6, i_neg7, i_neg8, i_neg9, i_nega, i_negb, i_negc, i_max2, i_min2, (m_will hm)])
    exact q
  · rw [show swt 198 78 0 5 #[38, 43, 50, 55, 62, 69] (nI 4) = 260 from by decide +kernel]
    try simp (disch := omega) only [no0, no1, nz1, nz2, nz3, nz4, nz5, nz7, nz8, Classical.not_not, bz0, bz1, wi_nil, ld_0, ld_s, isIv_I, isLv_L, isRv_R, true_and, and_true, lset_0, lset_1, lset_s, avw_I, avw_L, avw_R, clr_cons, clr_nil, kst_0, kst_1, kstL_0, kstL_1, addk_I, pA_0, pA_s, pD_0, pD_s, wid_nil, wid_cons, rcv_c, putv_I, putv_L, List.length_cons, List.length_nil, List.set_cons_zero, List.set_cons_succ, not_false_eq_true, Nat.reduceMod, Nat.reduceDiv, Nat.reduceEqDiff, Nat.reduceLT, Nat.reduceLeDiff, Nat.reduceAdd, Nat.reduceSub, reduceIte, Nat.lt_irrefl, Nat.zero_ne_one, Nat.one_ne_zero, Nat.zero_add, List.nil_append, List.cons_append, Option.toList_some, Option.toList_none, forall_const, false_implies, true_implies, false_or, or_false, true_or, or_true, i_le, i_lt, i_eq, i_eq0, i_lt0, i_0le, i_0lt, i_le0, i_in1, i_cl, nI_add, pk_mul, pk_sub, i_div, i_rem, i_sh1, i_bit, i_or, i_and, i_andn, nt_le, nf_le, nt_lt, nf_lt, nt_eq, nf_eq, not_true_eq_false, and_self, and_false, false_and, eq_self, Bool.toNat_true, Bool.toNat_false, i_bool, i_bool1, Bool.false_eq_true, Bool.true_eq_false, reduceCtorEq, i_neg1, i_neg2, i_neg3, i_neg4, i_neg5, i_neg6, i_neg7, i_neg8, i_neg9, i_nega, i_negb, i_negc, i_max2, i_min2, (m_offs hm), wi_nil]
    repeat (
      first
      | refine s_X9_counted_0 ?_
      | refine s_X9_counted_27 ?_
      | refine s_X9_counted_31 ?_
      | refine s_X9_counted_45 ?_
      | refine s_X9_counted_46 ?_
      | refine s_X9_counted_75 ?_
      | refine s_X9_counted_79 ?_
      | refine s_X9_counted_80 ?_
      | refine s_X9_counted_88 ?_
      | refine s_X9_counted_116 ?_
      | refine s_X9_counted_117 ?_
      | refine s_X9_counted_125 ?_
      | refine s_X9_counted_152 ?_
      | refine s_X9_counted_153 ?_
      | refine s_X9_counted_161 ?_
      | refine s_X9_counted_188 ?_
      | refine s_X9_counted_189 ?_
      | refine s_X9_counted_197 ?_
      | refine s_X9_counted_236 ?_
      | refine s_X9_counted_241 ?_
      | refine s_X9_counted_248 ?_
      | refine s_X9_counted_253 ?_
      | refine s_X9_counted_260 ?_
      | refine s_X9_counted_267 ?_
      | refine s_X9_counted_275 ?_
      | refine s_X9_counted_276 ?_
      simp (disch := omega) only [B_X9_counted_0, wi_iconst, wi_istore_n, B_X9_counted_4, wi_iload_n, wi_aload_n, wi_getfield, fldv_8_10, fds_8_10, cnt_8, wi_icmp_ge, wi_bipush, wi_icmp_ne, fldv_8_20, fds_8_20, wi_invokevirtual, B_X9_counted_27, wi_invokestatic, B_X9_counted_31, wi_if_eq, wi_iadd, wi_iaload, wi_goto, cnt_31, aTy_31, aLn_31, arr_31, cnt_34, aTy_34, aLn_34, arr_34, cnt_36, aTy_36, aLn_36, arr_36, cnt_40, aTy_40, aLn_40, arr_40, cnt_43, aTy_43, aLn_43, arr_43, bsv_43, B_X9_counted_45, B_X9_counted_46, fldv_8_11, fds_8_11, wi_icmp_eq, B_X9_counted_75, B_X9_counted_79, B_X9_counted_80, wi_iinc, B_X9_counted_88, B_X9_counted_90, fldv_8_5, fds_8_5, wi_if_lt, B_X9_counted_116, B_X9_counted_117, B_X9_counted_125, B_X9_counted_127, fldv_8_8, fds_8_8, B_X9_counted_152, B_X9_counted_153, B_X9_counted_161, B_X9_counted_163, fldv_8_24, fds_8_24, wi_baload, B_X9_counted_188, B_X9_counted_189, B_X9_counted_197, wi_tsw, B_X9_counted_236, wi_ireturn, B_X9_counted_241, B_X9_counted_248, fldv_8_22, fds_8_22, B_X9_counted_253, B_X9_counted_260, B_X9_counted_267, B_X9_counted_275, B_X9_counted_276, no0, no1, nz1, nz2, nz3, nz4, nz5, nz7, nz8, Classical.not_not, bz0, bz1, wi_nil, ld_0, ld_s, isIv_I, isLv_L, isRv_R, true_and, and_true, lset_0, lset_1, lset_s, avw_I, avw_L, avw_R, clr_cons, clr_nil, kst_0, kst_1, kstL_0, kstL_1, addk_I, pA_0, pA_s, pD_0, pD_s, wid_nil, wid_cons, rcv_c, putv_I, putv_L, List.length_cons, List.length_nil, List.set_cons_zero, List.set_cons_succ, not_false_eq_true, Nat.reduceMod, Nat.reduceDiv, Nat.reduceEqDiff, Nat.reduceLT, Nat.reduceLeDiff, Nat.reduceAdd, Nat.reduceSub, reduceIte, Nat.lt_irrefl, Nat.zero_ne_one, Nat.one_ne_zero, Nat.zero_add, List.nil_append, List.cons_append, Option.toList_some, Option.toList_none, forall_const, false_implies, true_implies, false_or, or_false, true_or, or_true, i_le, i_lt, i_eq, i_eq0, i_lt0, i_0le, i_0lt, i_le0, i_in1, i_cl, nI_add, pk_mul, pk_sub, i_div, i_rem, i_sh1, i_bit, i_or, i_and, i_andn, nt_le, nf_le, nt_lt, nf_lt, nt_eq, nf_eq, not_true_eq_false, and_self, and_false, false_and, eq_self, Bool.toNat_true, Bool.toNat_false, i_bool, i_bool1, Bool.false_eq_true, Bool.true_eq_false, reduceCtorEq, i_neg1, i_neg2, i_neg3, i_neg4, i_neg5, i_neg6, i_neg7, i_neg8, i_neg9, i_nega, i_negb, i_negc, i_max2, i_min2, (m_offs hm)])
    exact q
  · rw [show swt 198 78 0 5 #[38, 43, 50, 55, 62, 69] (nI 5) = 267 from by decide +kernel]
    try simp (disch := omega) only [no0, no1, nz1, nz2, nz3, nz4, nz5, nz7, nz8, Classical.not_not, bz0, bz1, wi_nil, ld_0, ld_s, isIv_I, isLv_L, isRv_R, true_and, and_true, lset_0, lset_1, lset_s, avw_I, avw_L, avw_R, clr_cons, clr_nil, kst_0, kst_1, kstL_0, kstL_1, addk_I, pA_0, pA_s, pD_0, pD_s, wid_nil, wid_cons, rcv_c, putv_I, putv_L, List.length_cons, List.length_nil, List.set_cons_zero, List.set_cons_succ, not_false_eq_true, Nat.reduceMod, Nat.reduceDiv, Nat.reduceEqDiff, Nat.reduceLT, Nat.reduceLeDiff, Nat.reduceAdd, Nat.reduceSub, reduceIte, Nat.lt_irrefl, Nat.zero_ne_one, Nat.one_ne_zero, Nat.zero_add, List.nil_append, List.cons_append, Option.toList_some, Option.toList_none, forall_const, false_implies, true_implies, false_or, or_false, true_or, or_true, i_le, i_lt, i_eq, i_eq0, i_lt0, i_0le, i_0lt, i_le0, i_in1, i_cl, nI_add, pk_mul, pk_sub, i_div, i_rem, i_sh1, i_bit, i_or, i_and, i_andn, nt_le, nf_le, nt_lt, nf_lt, nt_eq, nf_eq, not_true_eq_false, and_self, and_false, false_and, eq_self, Bool.toNat_true, Bool.toNat_false, i_bool, i_bool1, Bool.false_eq_true, Bool.true_eq_false, reduceCtorEq, i_neg1, i_neg2, i_neg3, i_neg4, i_neg5, i_neg6, i_neg7, i_neg8, i_neg9, i_nega, i_negb, i_negc, i_max2, i_min2, wi_nil]
    repeat (
      first
      | refine s_X9_counted_0 ?_
      | refine s_X9_counted_27 ?_
      | refine s_X9_counted_31 ?_
      | refine s_X9_counted_45 ?_
      | refine s_X9_counted_46 ?_
      | refine s_X9_counted_75 ?_
      | refine s_X9_counted_79 ?_
      | refine s_X9_counted_80 ?_
      | refine s_X9_counted_88 ?_
      | refine s_X9_counted_116 ?_
      | refine s_X9_counted_117 ?_
      | refine s_X9_counted_125 ?_
      | refine s_X9_counted_152 ?_
      | refine s_X9_counted_153 ?_
      | refine s_X9_counted_161 ?_
      | refine s_X9_counted_188 ?_
      | refine s_X9_counted_189 ?_
      | refine s_X9_counted_197 ?_
      | refine s_X9_counted_236 ?_
      | refine s_X9_counted_241 ?_
      | refine s_X9_counted_248 ?_
      | refine s_X9_counted_253 ?_
      | refine s_X9_counted_260 ?_
      | refine s_X9_counted_267 ?_
      | refine s_X9_counted_275 ?_
      | refine s_X9_counted_276 ?_
      simp (disch := omega) only [B_X9_counted_0, wi_iconst, wi_istore_n, B_X9_counted_4, wi_iload_n, wi_aload_n, wi_getfield, fldv_8_10, fds_8_10, cnt_8, wi_icmp_ge, wi_bipush, wi_icmp_ne, fldv_8_20, fds_8_20, wi_invokevirtual, B_X9_counted_27, wi_invokestatic, B_X9_counted_31, wi_if_eq, wi_iadd, wi_iaload, wi_goto, cnt_31, aTy_31, aLn_31, arr_31, cnt_34, aTy_34, aLn_34, arr_34, cnt_36, aTy_36, aLn_36, arr_36, cnt_40, aTy_40, aLn_40, arr_40, cnt_43, aTy_43, aLn_43, arr_43, bsv_43, B_X9_counted_45, B_X9_counted_46, fldv_8_11, fds_8_11, wi_icmp_eq, B_X9_counted_75, B_X9_counted_79, B_X9_counted_80, wi_iinc, B_X9_counted_88, B_X9_counted_90, fldv_8_5, fds_8_5, wi_if_lt, B_X9_counted_116, B_X9_counted_117, B_X9_counted_125, B_X9_counted_127, fldv_8_8, fds_8_8, B_X9_counted_152, B_X9_counted_153, B_X9_counted_161, B_X9_counted_163, fldv_8_24, fds_8_24, wi_baload, B_X9_counted_188, B_X9_counted_189, B_X9_counted_197, wi_tsw, B_X9_counted_236, wi_ireturn, B_X9_counted_241, B_X9_counted_248, fldv_8_22, fds_8_22, B_X9_counted_253, B_X9_counted_260, B_X9_counted_267, B_X9_counted_275, B_X9_counted_276, no0, no1, nz1, nz2, nz3, nz4, nz5, nz7, nz8, Classical.not_not, bz0, bz1, wi_nil, ld_0, ld_s, isIv_I, isLv_L, isRv_R, true_and, and_true, lset_0, lset_1, lset_s, avw_I, avw_L, avw_R, clr_cons, clr_nil, kst_0, kst_1, kstL_0, kstL_1, addk_I, pA_0, pA_s, pD_0, pD_s, wid_nil, wid_cons, rcv_c, putv_I, putv_L, List.length_cons, List.length_nil, List.set_cons_zero, List.set_cons_succ, not_false_eq_true, Nat.reduceMod, Nat.reduceDiv, Nat.reduceEqDiff, Nat.reduceLT, Nat.reduceLeDiff, Nat.reduceAdd, Nat.reduceSub, reduceIte, Nat.lt_irrefl, Nat.zero_ne_one, Nat.one_ne_zero, Nat.zero_add, List.nil_append, List.cons_append, Option.toList_some, Option.toList_none, forall_const, false_implies, true_implies, false_or, or_false, true_or, or_true, i_le, i_lt, i_eq, i_eq0, i_lt0, i_0le, i_0lt, i_le0, i_in1, i_cl, nI_add, pk_mul, pk_sub, i_div, i_rem, i_sh1, i_bit, i_or, i_and, i_andn, nt_le, nf_le, nt_lt, nf_lt, nt_eq, nf_eq, not_true_eq_false, and_self, and_false, false_and, eq_self, Bool.toNat_true, Bool.toNat_false, i_bool, i_bool1, Bool.false_eq_true, Bool.true_eq_false, reduceCtorEq, i_neg1, i_neg2, i_neg3, i_neg4, i_neg5, i_neg6, i_neg7, i_neg8, i_neg9, i_nega, i_negb, i_negc, i_max2, i_min2])
    refine c_there (Or.inl rfl) hm hn5 (yg_lt ho) ?_
    try simp (disch := omega) only [no0, no1, nz1, nz2, nz3, nz4, nz5, nz7, nz8, Classical.not_not, bz0, bz1, wi_nil, ld_0, ld_s, isIv_I, isLv_L, isRv_R, true_and, and_true, lset_0, lset_1, lset_s, avw_I, avw_L, avw_R, clr_cons, clr_nil, kst_0, kst_1, kstL_0, kstL_1, addk_I, pA_0, pA_s, pD_0, pD_s, wid_nil, wid_cons, rcv_c, putv_I, putv_L, List.length_cons, List.length_nil, List.set_cons_zero, List.set_cons_succ, not_false_eq_true, Nat.reduceMod, Nat.reduceDiv, Nat.reduceEqDiff, Nat.reduceLT, Nat.reduceLeDiff, Nat.reduceAdd, Nat.reduceSub, reduceIte, Nat.lt_irrefl, Nat.zero_ne_one, Nat.one_ne_zero, Nat.zero_add, List.nil_append, List.cons_append, Option.toList_some, Option.toList_none, forall_const, false_implies, true_implies, false_or, or_false, true_or, or_true, i_le, i_lt, i_eq, i_eq0, i_lt0, i_0le, i_0lt, i_le0, i_in1, i_cl, nI_add, pk_mul, pk_sub, i_div, i_rem, i_sh1, i_bit, i_or, i_and, i_andn, nt_le, nf_le, nt_lt, nf_lt, nt_eq, nf_eq, not_true_eq_false, and_self, and_false, false_and, eq_self, Bool.toNat_true, Bool.toNat_false, i_bool, i_bool1, Bool.false_eq_true, Bool.true_eq_false, reduceCtorEq, i_neg1, i_neg2, i_neg3, i_neg4, i_neg5, i_neg6, i_neg7, i_neg8, i_neg9, i_nega, i_negb, i_negc, i_max2, i_min2, wi_nil]
    repeat (
      first
      | refine s_X9_counted_0 ?_
      | refine s_X9_counted_27 ?_
      | refine s_X9_counted_31 ?_
      | refine s_X9_counted_45 ?_
      | refine s_X9_counted_46 ?_
      | refine s_X9_counted_75 ?_
      | refine s_X9_counted_79 ?_
      | refine s_X9_counted_80 ?_
      | refine s_X9_counted_88 ?_
      | refine s_X9_counted_116 ?_
      | refine s_X9_counted_117 ?_
      | refine s_X9_counted_125 ?_
      | refine s_X9_counted_152 ?_
      | refine s_X9_counted_153 ?_
      | refine s_X9_counted_161 ?_
      | refine s_X9_counted_188 ?_
      | refine s_X9_counted_189 ?_
      | refine s_X9_counted_197 ?_
      | refine s_X9_counted_236 ?_
      | refine s_X9_counted_241 ?_
      | refine s_X9_counted_248 ?_
      | refine s_X9_counted_253 ?_
      | refine s_X9_counted_260 ?_
      | refine s_X9_counted_267 ?_
      | refine s_X9_counted_275 ?_
      | refine s_X9_counted_276 ?_
      simp (disch := omega) only [B_X9_counted_0, wi_iconst, wi_istore_n, B_X9_counted_4, wi_iload_n, wi_aload_n, wi_getfield, fldv_8_10, fds_8_10, cnt_8, wi_icmp_ge, wi_bipush, wi_icmp_ne, fldv_8_20, fds_8_20, wi_invokevirtual, B_X9_counted_27, wi_invokestatic, B_X9_counted_31, wi_if_eq, wi_iadd, wi_iaload, wi_goto, cnt_31, aTy_31, aLn_31, arr_31, cnt_34, aTy_34, aLn_34, arr_34, cnt_36, aTy_36, aLn_36, arr_36, cnt_40, aTy_40, aLn_40, arr_40, cnt_43, aTy_43, aLn_43, arr_43, bsv_43, B_X9_counted_45, B_X9_counted_46, fldv_8_11, fds_8_11, wi_icmp_eq, B_X9_counted_75, B_X9_counted_79, B_X9_counted_80, wi_iinc, B_X9_counted_88, B_X9_counted_90, fldv_8_5, fds_8_5, wi_if_lt, B_X9_counted_116, B_X9_counted_117, B_X9_counted_125, B_X9_counted_127, fldv_8_8, fds_8_8, B_X9_counted_152, B_X9_counted_153, B_X9_counted_161, B_X9_counted_163, fldv_8_24, fds_8_24, wi_baload, B_X9_counted_188, B_X9_counted_189, B_X9_counted_197, wi_tsw, B_X9_counted_236, wi_ireturn, B_X9_counted_241, B_X9_counted_248, fldv_8_22, fds_8_22, B_X9_counted_253, B_X9_counted_260, B_X9_counted_267, B_X9_counted_275, B_X9_counted_276, no0, no1, nz1, nz2, nz3, nz4, nz5, nz7, nz8, Classical.not_not, bz0, bz1, wi_nil, ld_0, ld_s, isIv_I, isLv_L, isRv_R, true_and, and_true, lset_0, lset_1, lset_s, avw_I, avw_L, avw_R, clr_cons, clr_nil, kst_0, kst_1, kstL_0, kstL_1, addk_I, pA_0, pA_s, pD_0, pD_s, wid_nil, wid_cons, rcv_c, putv_I, putv_L, List.length_cons, List.length_nil, List.set_cons_zero, List.set_cons_succ, not_false_eq_true, Nat.reduceMod, Nat.reduceDiv, Nat.reduceEqDiff, Nat.reduceLT, Nat.reduceLeDiff, Nat.reduceAdd, Nat.reduceSub, reduceIte, Nat.lt_irrefl, Nat.zero_ne_one, Nat.one_ne_zero, Nat.zero_add, List.nil_append, List.cons_append, Option.toList_some, Option.toList_none, forall_const, false_implies, true_implies, false_or, or_false, true_or, or_true, i_le, i_lt, i_eq, i_eq0, i_lt0, i_0le, i_0lt, i_le0, i_in1, i_cl, nI_add, pk_mul, pk_sub, i_div, i_rem, i_sh1, i_bit, i_or, i_and, i_andn, nt_le, nf_le, nt_lt, nf_lt, nt_eq, nf_eq, not_true_eq_false, and_self, and_false, false_and, eq_self, Bool.toNat_true, Bool.toNat_false, i_bool, i_bool1, Bool.false_eq_true, Bool.true_eq_false, reduceCtorEq, i_neg1, i_neg2, i_neg3, i_neg4, i_neg5, i_neg6, i_neg7, i_neg8, i_neg9, i_nega, i_negb, i_negc, i_max2, i_min2])
    exact q
  · rw [show swt 198 78 0 5 #[38, 43, 50, 55, 62, 69] (nI 6) = 276 from by decide +kernel]
    try simp (disch := omega) only [no0, no1, nz1, nz2, nz3, nz4, nz5, nz7, nz8, Classical.not_not, bz0, bz1, wi_nil, ld_0, ld_s, isIv_I, isLv_L, isRv_R, true_and, and_true, lset_0, lset_1, lset_s, avw_I, avw_L, avw_R, clr_cons, clr_nil, kst_0, kst_1, kstL_0, kstL_1, addk_I, pA_0, pA_s, pD_0, pD_s, wid_nil, wid_cons, rcv_c, putv_I, putv_L, List.length_cons, List.length_nil, List.set_cons_zero, List.set_cons_succ, not_false_eq_true, Nat.reduceMod, Nat.reduceDiv, Nat.reduceEqDiff, Nat.reduceLT, Nat.reduceLeDiff, Nat.reduceAdd, Nat.reduceSub, reduceIte, Nat.lt_irrefl, Nat.zero_ne_one, Nat.one_ne_zero, Nat.zero_add, List.nil_append, List.cons_append, Option.toList_some, Option.toList_none, forall_const, false_implies, true_implies, false_or, or_false, true_or, or_true, i_le, i_lt, i_eq, i_eq0, i_lt0, i_0le, i_0lt, i_le0, i_in1, i_cl, nI_add, pk_mul, pk_sub, i_div, i_rem, i_sh1, i_bit, i_or, i_and, i_andn, nt_le, nf_le, nt_lt, nf_lt, nt_eq, nf_eq, not_true_eq_false, and_self, and_false, false_and, eq_self, Bool.toNat_true, Bool.toNat_false, i_bool, i_bool1, Bool.false_eq_true, Bool.true_eq_false, reduceCtorEq, i_neg1, i_neg2, i_neg3, i_neg4, i_neg5, i_neg6, i_neg7, i_neg8, i_neg9, i_nega, i_negb, i_negc, i_max2, i_min2, wi_nil]
    repeat (
      first
      | refine s_X9_counted_0 ?_
      | refine s_X9_counted_27 ?_
      | refine s_X9_counted_31 ?_
      | refine s_X9_counted_45 ?_
      | refine s_X9_counted_46 ?_
      | refine s_X9_counted_75 ?_
      | refine s_X9_counted_79 ?_
      | refine s_X9_counted_80 ?_
      | refine s_X9_counted_88 ?_
      | refine s_X9_counted_116 ?_
      | refine s_X9_counted_117 ?_
      | refine s_X9_counted_125 ?_
      | refine s_X9_counted_152 ?_
      | refine s_X9_counted_153 ?_
      | refine s_X9_counted_161 ?_
      | refine s_X9_counted_188 ?_
      | refine s_X9_counted_189 ?_
      | refine s_X9_counted_197 ?_
      | refine s_X9_counted_236 ?_
      | refine s_X9_counted_241 ?_
      | refine s_X9_counted_248 ?_
      | refine s_X9_counted_253 ?_
      | refine s_X9_counted_260 ?_
      | refine s_X9_counted_267 ?_
      | refine s_X9_counted_275 ?_
      | refine s_X9_counted_276 ?_
      simp (disch := omega) only [B_X9_counted_0, wi_iconst, wi_istore_n, B_X9_counted_4, wi_iload_n, wi_aload_n, wi_getfield, fldv_8_10, fds_8_10, cnt_8, wi_icmp_ge, wi_bipush, wi_icmp_ne, fldv_8_20, fds_8_20, wi_invokevirtual, B_X9_counted_27, wi_invokestatic, B_X9_counted_31, wi_if_eq, wi_iadd, wi_iaload, wi_goto, cnt_31, aTy_31, aLn_31, arr_31, cnt_34, aTy_34, aLn_34, arr_34, cnt_36, aTy_36, aLn_36, arr_36, cnt_40, aTy_40, aLn_40, arr_40, cnt_43, aTy_43, aLn_43, arr_43, bsv_43, B_X9_counted_45, B_X9_counted_46, fldv_8_11, fds_8_11, wi_icmp_eq, B_X9_counted_75, B_X9_counted_79, B_X9_counted_80, wi_iinc, B_X9_counted_88, B_X9_counted_90, fldv_8_5, fds_8_5, wi_if_lt, B_X9_counted_116, B_X9_counted_117, B_X9_counted_125, B_X9_counted_127, fldv_8_8, fds_8_8, B_X9_counted_152, B_X9_counted_153, B_X9_counted_161, B_X9_counted_163, fldv_8_24, fds_8_24, wi_baload, B_X9_counted_188, B_X9_counted_189, B_X9_counted_197, wi_tsw, B_X9_counted_236, wi_ireturn, B_X9_counted_241, B_X9_counted_248, fldv_8_22, fds_8_22, B_X9_counted_253, B_X9_counted_260, B_X9_counted_267, B_X9_counted_275, B_X9_counted_276, no0, no1, nz1, nz2, nz3, nz4, nz5, nz7, nz8, Classical.not_not, bz0, bz1, wi_nil, ld_0, ld_s, isIv_I, isLv_L, isRv_R, true_and, and_true, lset_0, lset_1, lset_s, avw_I, avw_L, avw_R, clr_cons, clr_nil, kst_0, kst_1, kstL_0, kstL_1, addk_I, pA_0, pA_s, pD_0, pD_s, wid_nil, wid_cons, rcv_c, putv_I, putv_L, List.length_cons, List.length_nil, List.set_cons_zero, List.set_cons_succ, not_false_eq_true, Nat.reduceMod, Nat.reduceDiv, Nat.reduceEqDiff, Nat.reduceLT, Nat.reduceLeDiff, Nat.reduceAdd, Nat.reduceSub, reduceIte, Nat.lt_irrefl, Nat.zero_ne_one, Nat.one_ne_zero, Nat.zero_add, List.nil_append, List.cons_append, Option.toList_some, Option.toList_none, forall_const, false_implies, true_implies, false_or, or_false, true_or, or_true, i_le, i_lt, i_eq, i_eq0, i_lt0, i_0le, i_0lt, i_le0, i_in1, i_cl, nI_add, pk_mul, pk_sub, i_div, i_rem, i_sh1, i_bit, i_or, i_and, i_andn, nt_le, nf_le, nt_lt, nf_lt, nt_eq, nf_eq, not_true_eq_false, and_self, and_false, false_and, eq_self, Bool.toNat_true, Bool.toNat_false, i_bool, i_bool1, Bool.false_eq_true, Bool.true_eq_false, reduceCtorEq, i_neg1, i_neg2, i_neg3, i_neg4, i_neg5, i_neg6, i_neg7, i_neg8, i_neg9, i_nega, i_negb, i_negc, i_max2, i_min2])
    rw [hbF_6, ifw_no (by decide), ifw_no (by decide), ifw_no (by decide)]
    exact q
  · rw [show swt 198 78 0 5 #[38, 43, 50, 55, 62, 69] (nI 7) = 276 from by decide +kernel]
    try simp (disch := omega) only [no0, no1, nz1, nz2, nz3, nz4, nz5, nz7, nz8, Classical.not_not, bz0, bz1, wi_nil, ld_0, ld_s, isIv_I, isLv_L, isRv_R, true_and, and_true, lset_0, lset_1, lset_s, avw_I, avw_L, avw_R, clr_cons, clr_nil, kst_0, kst_1, kstL_0, kstL_1, addk_I, pA_0, pA_s, pD_0, pD_s, wid_nil, wid_cons, rcv_c, putv_I, putv_L, List.length_cons, List.length_nil, List.set_cons_zero, List.set_cons_succ, not_false_eq_true, Nat.reduceMod, Nat.reduceDiv, Nat.reduceEqDiff, Nat.reduceLT, Nat.reduceLeDiff, Nat.reduceAdd, Nat.reduceSub, reduceIte, Nat.lt_irrefl, Nat.zero_ne_one, Nat.one_ne_zero, Nat.zero_add, List.nil_append, List.cons_append, Option.toList_some, Option.toList_none, forall_const, false_implies, true_implies, false_or, or_false, true_or, or_true, i_le, i_lt, i_eq, i_eq0, i_lt0, i_0le, i_0lt, i_le0, i_in1, i_cl, nI_add, pk_mul, pk_sub, i_div, i_rem, i_sh1, i_bit, i_or, i_and, i_andn, nt_le, nf_le, nt_lt, nf_lt, nt_eq, nf_eq, not_true_eq_false, and_self, and_false, false_and, eq_self, Bool.toNat_true, Bool.toNat_false, i_bool, i_bool1, Bool.false_eq_true, Bool.true_eq_false, reduceCtorEq, i_neg1, i_neg2, i_neg3, i_neg4, i_neg5, i_neg6, i_neg7, i_neg8, i_neg9, i_nega, i_negb, i_negc, i_max2, i_min2, wi_nil]
    repeat (
      first
      | refine s_X9_counted_0 ?_
      | refine s_X9_counted_27 ?_
      | refine s_X9_counted_31 ?_
      | refine s_X9_counted_45 ?_
      | refine s_X9_counted_46 ?_
      | refine s_X9_counted_75 ?_
      | refine s_X9_counted_79 ?_
      | refine s_X9_counted_80 ?_
      | refine s_X9_counted_88 ?_
      | refine s_X9_counted_116 ?_
      | refine s_X9_counted_117 ?_
      | refine s_X9_counted_125 ?_
      | refine s_X9_counted_152 ?_
      | refine s_X9_counted_153 ?_
      | refine s_X9_counted_161 ?_
      | refine s_X9_counted_188 ?_
      | refine s_X9_counted_189 ?_
      | refine s_X9_counted_197 ?_
      | refine s_X9_counted_236 ?_
      | refine s_X9_counted_241 ?_
      | refine s_X9_counted_248 ?_
      | refine s_X9_counted_253 ?_
      | refine s_X9_counted_260 ?_
      | refine s_X9_counted_267 ?_
      | refine s_X9_counted_275 ?_
      | refine s_X9_counted_276 ?_
      simp (disch := omega) only [B_X9_counted_0, wi_iconst, wi_istore_n, B_X9_counted_4, wi_iload_n, wi_aload_n, wi_getfield, fldv_8_10, fds_8_10, cnt_8, wi_icmp_ge, wi_bipush, wi_icmp_ne, fldv_8_20, fds_8_20, wi_invokevirtual, B_X9_counted_27, wi_invokestatic, B_X9_counted_31, wi_if_eq, wi_iadd, wi_iaload, wi_goto, cnt_31, aTy_31, aLn_31, arr_31, cnt_34, aTy_34, aLn_34, arr_34, cnt_36, aTy_36, aLn_36, arr_36, cnt_40, aTy_40, aLn_40, arr_40, cnt_43, aTy_43, aLn_43, arr_43, bsv_43, B_X9_counted_45, B_X9_counted_46, fldv_8_11, fds_8_11, wi_icmp_eq, B_X9_counted_75, B_X9_counted_79, B_X9_counted_80, wi_iinc, B_X9_counted_88, B_X9_counted_90, fldv_8_5, fds_8_5, wi_if_lt, B_X9_counted_116, B_X9_counted_117, B_X9_counted_125, B_X9_counted_127, fldv_8_8, fds_8_8, B_X9_counted_152, B_X9_counted_153, B_X9_counted_161, B_X9_counted_163, fldv_8_24, fds_8_24, wi_baload, B_X9_counted_188, B_X9_counted_189, B_X9_counted_197, wi_tsw, B_X9_counted_236, wi_ireturn, B_X9_counted_241, B_X9_counted_248, fldv_8_22, fds_8_22, B_X9_counted_253, B_X9_counted_260, B_X9_counted_267, B_X9_counted_275, B_X9_counted_276, no0, no1, nz1, nz2, nz3, nz4, nz5, nz7, nz8, Classical.not_not, bz0, bz1, wi_nil, ld_0, ld_s, isIv_I, isLv_L, isRv_R, true_and, and_true, lset_0, lset_1, lset_s, avw_I, avw_L, avw_R, clr_cons, clr_nil, kst_0, kst_1, kstL_0, kstL_1, addk_I, pA_0, pA_s, pD_0, pD_s, wid_nil, wid_cons, rcv_c, putv_I, putv_L, List.length_cons, List.length_nil, List.set_cons_zero, List.set_cons_succ, not_false_eq_true, Nat.reduceMod, Nat.reduceDiv, Nat.reduceEqDiff, Nat.reduceLT, Nat.reduceLeDiff, Nat.reduceAdd, Nat.reduceSub, reduceIte, Nat.lt_irrefl, Nat.zero_ne_one, Nat.one_ne_zero, Nat.zero_add, List.nil_append, List.cons_append, Option.toList_some, Option.toList_none, forall_const, false_implies, true_implies, false_or, or_false, true_or, or_true, i_le, i_lt, i_eq, i_eq0, i_lt0, i_0le, i_0lt, i_le0, i_in1, i_cl, nI_add, pk_mul, pk_sub, i_div, i_rem, i_sh1, i_bit, i_or, i_and, i_andn, nt_le, nf_le, nt_lt, nf_lt, nt_eq, nf_eq, not_true_eq_false, and_self, and_false, false_and, eq_self, Bool.toNat_true, Bool.toNat_false, i_bool, i_bool1, Bool.false_eq_true, Bool.true_eq_false, reduceCtorEq, i_neg1, i_neg2, i_neg3, i_neg4, i_neg5, i_neg6, i_neg7, i_neg8, i_neg9, i_nega, i_negb, i_negc, i_max2, i_min2])
    rw [hbF_7, ifw_no (by decide), ifw_no (by decide), ifw_no (by decide)]
    exact q
  · rw [show swt 198 78 0 5 #[38, 43, 50, 55, 62, 69] (nI 8) = 276 from by decide +kernel]
    try simp (disch := omega) only [no0, no1, nz1, nz2, nz3, nz4, nz5, nz7, nz8, Classical.not_not, bz0, bz1, wi_nil, ld_0, ld_s, isIv_I, isLv_L, isRv_R, true_and, and_true, lset_0, lset_1, lset_s, avw_I, avw_L, avw_R, clr_cons, clr_nil, kst_0, kst_1, kstL_0, kstL_1, addk_I, pA_0, pA_s, pD_0, pD_s, wid_nil, wid_cons, rcv_c, putv_I, putv_L, List.length_cons, List.length_nil, List.set_cons_zero, List.set_cons_succ, not_false_eq_true, Nat.reduceMod, Nat.reduceDiv, Nat.reduceEqDiff, Nat.reduceLT, Nat.reduceLeDiff, Nat.reduceAdd, Nat.reduceSub, reduceIte, Nat.lt_irrefl, Nat.zero_ne_one, Nat.one_ne_zero, Nat.zero_add, List.nil_append, List.cons_append, Option.toList_some, Option.toList_none, forall_const, false_implies, true_implies, false_or, or_false, true_or, or_true, i_le, i_lt, i_eq, i_eq0, i_lt0, i_0le, i_0lt, i_le0, i_in1, i_cl, nI_add, pk_mul, pk_sub, i_div, i_rem, i_sh1, i_bit, i_or, i_and, i_andn, nt_le, nf_le, nt_lt, nf_lt, nt_eq, nf_eq, not_true_eq_false, and_self, and_false, false_and, eq_self, Bool.toNat_true, Bool.toNat_false, i_bool, i_bool1, Bool.false_eq_true, Bool.true_eq_false, reduceCtorEq, i_neg1, i_neg2, i_neg3, i_neg4, i_neg5, i_neg6, i_neg7, i_neg8, i_neg9, i_nega, i_negb, i_negc, i_max2, i_min2, wi_nil]
    repeat (
      first
      | refine s_X9_counted_0 ?_
      | refine s_X9_counted_27 ?_
      | refine s_X9_counted_31 ?_
      | refine s_X9_counted_45 ?_
      | refine s_X9_counted_46 ?_
      | refine s_X9_counted_75 ?_
      | refine s_X9_counted_79 ?_
      | refine s_X9_counted_80 ?_
      | refine s_X9_counted_88 ?_
      | refine s_X9_counted_116 ?_
      | refine s_X9_counted_117 ?_
      | refine s_X9_counted_125 ?_
      | refine s_X9_counted_152 ?_
      | refine s_X9_counted_153 ?_
      | refine s_X9_counted_161 ?_
      | refine s_X9_counted_188 ?_
      | refine s_X9_counted_189 ?_
      | refine s_X9_counted_197 ?_
      | refine s_X9_counted_236 ?_
      | refine s_X9_counted_241 ?_
      | refine s_X9_counted_248 ?_
      | refine s_X9_counted_253 ?_
      | refine s_X9_counted_260 ?_
      | refine s_X9_counted_267 ?_
      | refine s_X9_counted_275 ?_
      | refine s_X9_counted_276 ?_
      simp (disch := omega) only [B_X9_counted_0, wi_iconst, wi_istore_n, B_X9_counted_4, wi_iload_n, wi_aload_n, wi_getfield, fldv_8_10, fds_8_10, cnt_8, wi_icmp_ge, wi_bipush, wi_icmp_ne, fldv_8_20, fds_8_20, wi_invokevirtual, B_X9_counted_27, wi_invokestatic, B_X9_counted_31, wi_if_eq, wi_iadd, wi_iaload, wi_goto, cnt_31, aTy_31, aLn_31, arr_31, cnt_34, aTy_34, aLn_34, arr_34, cnt_36, aTy_36, aLn_36, arr_36, cnt_40, aTy_40, aLn_40, arr_40, cnt_43, aTy_43, aLn_43, arr_43, bsv_43, B_X9_counted_45, B_X9_counted_46, fldv_8_11, fds_8_11, wi_icmp_eq, B_X9_counted_75, B_X9_counted_79, B_X9_counted_80, wi_iinc, B_X9_counted_88, B_X9_counted_90, fldv_8_5, fds_8_5, wi_if_lt, B_X9_counted_116, B_X9_counted_117, B_X9_counted_125, B_X9_counted_127, fldv_8_8, fds_8_8, B_X9_counted_152, B_X9_counted_153, B_X9_counted_161, B_X9_counted_163, fldv_8_24, fds_8_24, wi_baload, B_X9_counted_188, B_X9_counted_189, B_X9_counted_197, wi_tsw, B_X9_counted_236, wi_ireturn, B_X9_counted_241, B_X9_counted_248, fldv_8_22, fds_8_22, B_X9_counted_253, B_X9_counted_260, B_X9_counted_267, B_X9_counted_275, B_X9_counted_276, no0, no1, nz1, nz2, nz3, nz4, nz5, nz7, nz8, Classical.not_not, bz0, bz1, wi_nil, ld_0, ld_s, isIv_I, isLv_L, isRv_R, true_and, and_true, lset_0, lset_1, lset_s, avw_I, avw_L, avw_R, clr_cons, clr_nil, kst_0, kst_1, kstL_0, kstL_1, addk_I, pA_0, pA_s, pD_0, pD_s, wid_nil, wid_cons, rcv_c, putv_I, putv_L, List.length_cons, List.length_nil, List.set_cons_zero, List.set_cons_succ, not_false_eq_true, Nat.reduceMod, Nat.reduceDiv, Nat.reduceEqDiff, Nat.reduceLT, Nat.reduceLeDiff, Nat.reduceAdd, Nat.reduceSub, reduceIte, Nat.lt_irrefl, Nat.zero_ne_one, Nat.one_ne_zero, Nat.zero_add, List.nil_append, List.cons_append, Option.toList_some, Option.toList_none, forall_const, false_implies, true_implies, false_or, or_false, true_or, or_true, i_le, i_lt, i_eq, i_eq0, i_lt0, i_0le, i_0lt, i_le0, i_in1, i_cl, nI_add, pk_mul, pk_sub, i_div, i_rem, i_sh1, i_bit, i_or, i_and, i_andn, nt_le, nf_le, nt_lt, nf_lt, nt_eq, nf_eq, not_true_eq_false, and_self, and_false, false_and, eq_self, Bool.toNat_true, Bool.toNat_false, i_bool, i_bool1, Bool.false_eq_true, Bool.true_eq_false, reduceCtorEq, i_neg1, i_neg2, i_neg3, i_neg4, i_neg5, i_neg6, i_neg7, i_neg8, i_neg9, i_nega, i_negb, i_negc, i_max2, i_min2])
    rw [hbF_no (by decide) (by decide), ifw_yes, ifw_no (by decide), ifw_no (by decide), Nat.zero_add]
    exact q
  · rw [show swt 198 78 0 5 #[38, 43, 50, 55, 62, 69] (nI 9) = 276 from by decide +kernel]
    try simp (disch := omega) only [no0, no1, nz1, nz2, nz3, nz4, nz5, nz7, nz8, Classical.not_not, bz0, bz1, wi_nil, ld_0, ld_s, isIv_I, isLv_L, isRv_R, true_and, and_true, lset_0, lset_1, lset_s, avw_I, avw_L, avw_R, clr_cons, clr_nil, kst_0, kst_1, kstL_0, kstL_1, addk_I, pA_0, pA_s, pD_0, pD_s, wid_nil, wid_cons, rcv_c, putv_I, putv_L, List.length_cons, List.length_nil, List.set_cons_zero, List.set_cons_succ, not_false_eq_true, Nat.reduceMod, Nat.reduceDiv, Nat.reduceEqDiff, Nat.reduceLT, Nat.reduceLeDiff, Nat.reduceAdd, Nat.reduceSub, reduceIte, Nat.lt_irrefl, Nat.zero_ne_one, Nat.one_ne_zero, Nat.zero_add, List.nil_append, List.cons_append, Option.toList_some, Option.toList_none, forall_const, false_implies, true_implies, false_or, or_false, true_or, or_true, i_le, i_lt, i_eq, i_eq0, i_lt0, i_0le, i_0lt, i_le0, i_in1, i_cl, nI_add, pk_mul, pk_sub, i_div, i_rem, i_sh1, i_bit, i_or, i_and, i_andn, nt_le, nf_le, nt_lt, nf_lt, nt_eq, nf_eq, not_true_eq_false, and_self, and_false, false_and, eq_self, Bool.toNat_true, Bool.toNat_false, i_bool, i_bool1, Bool.false_eq_true, Bool.true_eq_false, reduceCtorEq, i_neg1, i_neg2, i_neg3, i_neg4, i_neg5, i_neg6, i_neg7, i_neg8, i_neg9, i_nega, i_negb, i_negc, i_max2, i_min2, wi_nil]
    repeat (
      first
      | refine s_X9_counted_0 ?_
      | refine s_X9_counted_27 ?_
      | refine s_X9_counted_31 ?_
      | refine s_X9_counted_45 ?_
      | refine s_X9_counted_46 ?_
      | refine s_X9_counted_75 ?_
      | refine s_X9_counted_79 ?_
      | refine s_X9_counted_80 ?_
      | refine s_X9_counted_88 ?_
      | refine s_X9_counted_116 ?_
      | refine s_X9_counted_117 ?_
      | refine s_X9_counted_125 ?_
      | refine s_X9_counted_152 ?_
      | refine s_X9_counted_153 ?_
      | refine s_X9_counted_161 ?_
      | refine s_X9_counted_188 ?_
      | refine s_X9_counted_189 ?_
      | refine s_X9_counted_197 ?_
      | refine s_X9_counted_236 ?_
      | refine s_X9_counted_241 ?_
      | refine s_X9_counted_248 ?_
      | refine s_X9_counted_253 ?_
      | refine s_X9_counted_260 ?_
      | refine s_X9_counted_267 ?_
      | refine s_X9_counted_275 ?_
      | refine s_X9_counted_276 ?_
      simp (disch := omega) only [B_X9_counted_0, wi_iconst, wi_istore_n, B_X9_counted_4, wi_iload_n, wi_aload_n, wi_getfield, fldv_8_10, fds_8_10, cnt_8, wi_icmp_ge, wi_bipush, wi_icmp_ne, fldv_8_20, fds_8_20, wi_invokevirtual, B_X9_counted_27, wi_invokestatic, B_X9_counted_31, wi_if_eq, wi_iadd, wi_iaload, wi_goto, cnt_31, aTy_31, aLn_31, arr_31, cnt_34, aTy_34, aLn_34, arr_34, cnt_36, aTy_36, aLn_36, arr_36, cnt_40, aTy_40, aLn_40, arr_40, cnt_43, aTy_43, aLn_43, arr_43, bsv_43, B_X9_counted_45, B_X9_counted_46, fldv_8_11, fds_8_11, wi_icmp_eq, B_X9_counted_75, B_X9_counted_79, B_X9_counted_80, wi_iinc, B_X9_counted_88, B_X9_counted_90, fldv_8_5, fds_8_5, wi_if_lt, B_X9_counted_116, B_X9_counted_117, B_X9_counted_125, B_X9_counted_127, fldv_8_8, fds_8_8, B_X9_counted_152, B_X9_counted_153, B_X9_counted_161, B_X9_counted_163, fldv_8_24, fds_8_24, wi_baload, B_X9_counted_188, B_X9_counted_189, B_X9_counted_197, wi_tsw, B_X9_counted_236, wi_ireturn, B_X9_counted_241, B_X9_counted_248, fldv_8_22, fds_8_22, B_X9_counted_253, B_X9_counted_260, B_X9_counted_267, B_X9_counted_275, B_X9_counted_276, no0, no1, nz1, nz2, nz3, nz4, nz5, nz7, nz8, Classical.not_not, bz0, bz1, wi_nil, ld_0, ld_s, isIv_I, isLv_L, isRv_R, true_and, and_true, lset_0, lset_1, lset_s, avw_I, avw_L, avw_R, clr_cons, clr_nil, kst_0, kst_1, kstL_0, kstL_1, addk_I, pA_0, pA_s, pD_0, pD_s, wid_nil, wid_cons, rcv_c, putv_I, putv_L, List.length_cons, List.length_nil, List.set_cons_zero, List.set_cons_succ, not_false_eq_true, Nat.reduceMod, Nat.reduceDiv, Nat.reduceEqDiff, Nat.reduceLT, Nat.reduceLeDiff, Nat.reduceAdd, Nat.reduceSub, reduceIte, Nat.lt_irrefl, Nat.zero_ne_one, Nat.one_ne_zero, Nat.zero_add, List.nil_append, List.cons_append, Option.toList_some, Option.toList_none, forall_const, false_implies, true_implies, false_or, or_false, true_or, or_true, i_le, i_lt, i_eq, i_eq0, i_lt0, i_0le, i_0lt, i_le0, i_in1, i_cl, nI_add, pk_mul, pk_sub, i_div, i_rem, i_sh1, i_bit, i_or, i_and, i_andn, nt_le, nf_le, nt_lt, nf_lt, nt_eq, nf_eq, not_true_eq_false, and_self, and_false, false_and, eq_self, Bool.toNat_true, Bool.toNat_false, i_bool, i_bool1, Bool.false_eq_true, Bool.true_eq_false, reduceCtorEq, i_neg1, i_neg2, i_neg3, i_neg4, i_neg5, i_neg6, i_neg7, i_neg8, i_neg9, i_nega, i_negb, i_negc, i_max2, i_min2])
    rw [hbF_no (by decide) (by decide), ifw_no (by decide), ifw_yes, ifw_no (by decide), Nat.zero_add]
    exact q
  · rw [show swt 198 78 0 5 #[38, 43, 50, 55, 62, 69] (nI 10) = 276 from by decide +kernel]
    try simp (disch := omega) only [no0, no1, nz1, nz2, nz3, nz4, nz5, nz7, nz8, Classical.not_not, bz0, bz1, wi_nil, ld_0, ld_s, isIv_I, isLv_L, isRv_R, true_and, and_true, lset_0, lset_1, lset_s, avw_I, avw_L, avw_R, clr_cons, clr_nil, kst_0, kst_1, kstL_0, kstL_1, addk_I, pA_0, pA_s, pD_0, pD_s, wid_nil, wid_cons, rcv_c, putv_I, putv_L, List.length_cons, List.length_nil, List.set_cons_zero, List.set_cons_succ, not_false_eq_true, Nat.reduceMod, Nat.reduceDiv, Nat.reduceEqDiff, Nat.reduceLT, Nat.reduceLeDiff, Nat.reduceAdd, Nat.reduceSub, reduceIte, Nat.lt_irrefl, Nat.zero_ne_one, Nat.one_ne_zero, Nat.zero_add, List.nil_append, List.cons_append, Option.toList_some, Option.toList_none, forall_const, false_implies, true_implies, false_or, or_false, true_or, or_true, i_le, i_lt, i_eq, i_eq0, i_lt0, i_0le, i_0lt, i_le0, i_in1, i_cl, nI_add, pk_mul, pk_sub, i_div, i_rem, i_sh1, i_bit, i_or, i_and, i_andn, nt_le, nf_le, nt_lt, nf_lt, nt_eq, nf_eq, not_true_eq_false, and_self, and_false, false_and, eq_self, Bool.toNat_true, Bool.toNat_false, i_bool, i_bool1, Bool.false_eq_true, Bool.true_eq_false, reduceCtorEq, i_neg1, i_neg2, i_neg3, i_neg4, i_neg5, i_neg6, i_neg7, i_neg8, i_neg9, i_nega, i_negb, i_negc, i_max2, i_min2, wi_nil]
    repeat (
      first
      | refine s_X9_counted_0 ?_
      | refine s_X9_counted_27 ?_
      | refine s_X9_counted_31 ?_
      | refine s_X9_counted_45 ?_
      | refine s_X9_counted_46 ?_
      | refine s_X9_counted_75 ?_
      | refine s_X9_counted_79 ?_
      | refine s_X9_counted_80 ?_
      | refine s_X9_counted_88 ?_
      | refine s_X9_counted_116 ?_
      | refine s_X9_counted_117 ?_
      | refine s_X9_counted_125 ?_
      | refine s_X9_counted_152 ?_
      | refine s_X9_counted_153 ?_
      | refine s_X9_counted_161 ?_
      | refine s_X9_counted_188 ?_
      | refine s_X9_counted_189 ?_
      | refine s_X9_counted_197 ?_
      | refine s_X9_counted_236 ?_
      | refine s_X9_counted_241 ?_
      | refine s_X9_counted_248 ?_
      | refine s_X9_counted_253 ?_
      | refine s_X9_counted_260 ?_
      | refine s_X9_counted_267 ?_
      | refine s_X9_counted_275 ?_
      | refine s_X9_counted_276 ?_
      simp (disch := omega) only [B_X9_counted_0, wi_iconst, wi_istore_n, B_X9_counted_4, wi_iload_n, wi_aload_n, wi_getfield, fldv_8_10, fds_8_10, cnt_8, wi_icmp_ge, wi_bipush, wi_icmp_ne, fldv_8_20, fds_8_20, wi_invokevirtual, B_X9_counted_27, wi_invokestatic, B_X9_counted_31, wi_if_eq, wi_iadd, wi_iaload, wi_goto, cnt_31, aTy_31, aLn_31, arr_31, cnt_34, aTy_34, aLn_34, arr_34, cnt_36, aTy_36, aLn_36, arr_36, cnt_40, aTy_40, aLn_40, arr_40, cnt_43, aTy_43, aLn_43, arr_43, bsv_43, B_X9_counted_45, B_X9_counted_46, fldv_8_11, fds_8_11, wi_icmp_eq, B_X9_counted_75, B_X9_counted_79, B_X9_counted_80, wi_iinc, B_X9_counted_88, B_X9_counted_90, fldv_8_5, fds_8_5, wi_if_lt, B_X9_counted_116, B_X9_counted_117, B_X9_counted_125, B_X9_counted_127, fldv_8_8, fds_8_8, B_X9_counted_152, B_X9_counted_153, B_X9_counted_161, B_X9_counted_163, fldv_8_24, fds_8_24, wi_baload, B_X9_counted_188, B_X9_counted_189, B_X9_counted_197, wi_tsw, B_X9_counted_236, wi_ireturn, B_X9_counted_241, B_X9_counted_248, fldv_8_22, fds_8_22, B_X9_counted_253, B_X9_counted_260, B_X9_counted_267, B_X9_counted_275, B_X9_counted_276, no0, no1, nz1, nz2, nz3, nz4, nz5, nz7, nz8, Classical.not_not, bz0, bz1, wi_nil, ld_0, ld_s, isIv_I, isLv_L, isRv_R, true_and, and_true, lset_0, lset_1, lset_s, avw_I, avw_L, avw_R, clr_cons, clr_nil, kst_0, kst_1, kstL_0, kstL_1, addk_I, pA_0, pA_s, pD_0, pD_s, wid_nil, wid_cons, rcv_c, putv_I, putv_L, List.length_cons, List.length_nil, List.set_cons_zero, List.set_cons_succ, not_false_eq_true, Nat.reduceMod, Nat.reduceDiv, Nat.reduceEqDiff, Nat.reduceLT, Nat.reduceLeDiff, Nat.reduceAdd, Nat.reduceSub, reduceIte, Nat.lt_irrefl, Nat.zero_ne_one, Nat.one_ne_zero, Nat.zero_add, List.nil_append, List.cons_append, Option.toList_some, Option.toList_none, forall_const, false_implies, true_implies, false_or, or_false, true_or, or_true, i_le, i_lt, i_eq, i_eq0, i_lt0, i_0le, i_0lt, i_le0, i_in1, i_cl, nI_add, pk_mul, pk_sub, i_div, i_rem, i_sh1, i_bit, i_or, i_and, i_andn, nt_le, nf_le, nt_lt, nf_lt, nt_eq, nf_eq, not_true_eq_false, and_self, and_false, false_and, eq_self, Bool.toNat_true, Bool.toNat_false, i_bool, i_bool1, Bool.false_eq_true, Bool.true_eq_false, reduceCtorEq, i_neg1, i_neg2, i_neg3, i_neg4, i_neg5, i_neg6, i_neg7, i_neg8, i_neg9, i_nega, i_negb, i_negc, i_max2, i_min2])
    rw [hbF_no (by decide) (by decide), ifw_no (by decide), ifw_no (by decide), ifw_yes, Nat.zero_add]
    exact q
theorem o_count {v : Int32} (h : Rr S) : wpM (d + 10) mX8_count [aR 7 0, aI v] S (PX d mX9_count [aI v]) := by
  obtain ⟨⟨rs, rc, h1⟩, ⟨ts, tc, h2⟩, ⟨Y0, as, kp, ⟨x1, x2, x3, x4⟩, ⟨m1, m2, m3⟩, k1, k2, k3⟩, -⟩ := id h
  have ho : YOk 40 (nwY Y0 as) := YOk_mono (nwY_ok as 0 Y0 k1 k2.2) (by have := k2.1; omega)
  cases hv : inB v 11
  · have hv2 := of_decide_eq_false hv
    refine x_entry (ls2 := [aR 7 0, aI v]) (Nat.le_of_ble_eq_true rfl) pl_8 rfl (Nat.le_of_ble_eq_true rfl) ?_
    refine s_X8_count_0 ?_
    simp (disch := omega) only [B_X8_count_0, wi_iload_n, wi_tsw, no0, no1, nz1, nz2, nz3, nz4, nz5, nz7, nz8, Classical.not_not, bz0, bz1, wi_nil, ld_0, ld_s, isIv_I, isLv_L, isRv_R, true_and, and_true, lset_0, lset_1, lset_s, avw_I, avw_L, avw_R, clr_cons, clr_nil, kst_0, kst_1, kstL_0, kstL_1, addk_I, pA_0, pA_s, pD_0, pD_s, wid_nil, wid_cons, rcv_c, putv_I, putv_L, List.length_cons, List.length_nil, List.set_cons_zero, List.set_cons_succ, not_false_eq_true, Nat.reduceMod, Nat.reduceDiv, Nat.reduceEqDiff, Nat.reduceLT, Nat.reduceLeDiff, Nat.reduceAdd, Nat.reduceSub, reduceIte, Nat.lt_irrefl, Nat.zero_ne_one, Nat.one_ne_zero, Nat.zero_add, List.nil_append, List.cons_append, Option.toList_some, Option.toList_none, forall_const, false_implies, true_implies, false_or, or_false, true_or, or_true, i_le, i_lt, i_eq, i_eq0, i_lt0, i_0le, i_0lt, i_le0, i_in1, i_cl, nI_add, pk_mul, pk_sub, i_div, i_rem, i_sh1, i_bit, i_or, i_and, i_andn, nt_le, nf_le, nt_lt, nf_lt, nt_eq, nf_eq, not_true_eq_false, and_self, and_false, false_and, eq_self, Bool.toNat_true, Bool.toNat_false, i_bool, i_bool1, Bool.false_eq_true, Bool.true_eq_false, reduceCtorEq, i_neg1, i_neg2, i_neg3, i_neg4, i_neg5, i_neg6, i_neg7, i_neg8, i_neg9, i_nega, i_negb, i_negc, i_max2, i_min2]
    rw [swt_out (t := 148) (by omega) rfl]
    try simp (disch := omega) only [no0, no1, nz1, nz2, nz3, nz4, nz5, nz7, nz8, Classical.not_not, bz0, bz1, wi_nil, ld_0, ld_s, isIv_I, isLv_L, isRv_R, true_and, and_true, lset_0, lset_1, lset_s, avw_I, avw_L, avw_R, clr_cons, clr_nil, kst_0, kst_1, kstL_0, kstL_1, addk_I, pA_0, pA_s, pD_0, pD_s, wid_nil, wid_cons, rcv_c, putv_I, putv_L, List.length_cons, List.length_nil, List.set_cons_zero, List.set_cons_succ, not_false_eq_true, Nat.reduceMod, Nat.reduceDiv, Nat.reduceEqDiff, Nat.reduceLT, Nat.reduceLeDiff, Nat.reduceAdd, Nat.reduceSub, reduceIte, Nat.lt_irrefl, Nat.zero_ne_one, Nat.one_ne_zero, Nat.zero_add, List.nil_append, List.cons_append, Option.toList_some, Option.toList_none, forall_const, false_implies, true_implies, false_or, or_false, true_or, or_true, i_le, i_lt, i_eq, i_eq0, i_lt0, i_0le, i_0lt, i_le0, i_in1, i_cl, nI_add, pk_mul, pk_sub, i_div, i_rem, i_sh1, i_bit, i_or, i_and, i_andn, nt_le, nf_le, nt_lt, nf_lt, nt_eq, nf_eq, not_true_eq_false, and_self, and_false, false_and, eq_self, Bool.toNat_true, Bool.toNat_false, i_bool, i_bool1, Bool.false_eq_true, Bool.true_eq_false, reduceCtorEq, i_neg1, i_neg2, i_neg3, i_neg4, i_neg5, i_neg6, i_neg7, i_neg8, i_neg9, i_nega, i_negb, i_negc, i_max2, i_min2, wi_nil]
    repeat (
      first
      | refine s_X8_count_0 ?_
      | refine s_X8_count_60 ?_
      | refine s_X8_count_68 ?_
      | refine s_X8_count_76 ?_
      | refine s_X8_count_84 ?_
      | refine s_X8_count_92 ?_
      | refine s_X8_count_100 ?_
      | refine s_X8_count_107 ?_
      | refine s_X8_count_108 ?_
      | refine s_X8_count_115 ?_
      | refine s_X8_count_116 ?_
      | refine s_X8_count_123 ?_
      | refine s_X8_count_124 ?_
      | refine s_X8_count_131 ?_
      | refine s_X8_count_132 ?_
      | refine s_X8_count_139 ?_
      | refine s_X8_count_140 ?_
      | refine s_X8_count_147 ?_
      | refine s_X8_count_148 ?_
      simp (disch := omega) only [B_X8_count_0, wi_iload_n, wi_tsw, B_X8_count_60, wi_aload_n, wi_getfield, fldv_7_3, fds_7_3, cnt_7, fldv_6_7, fds_6_7, cnt_6, wi_ireturn, B_X8_count_68, fldv_6_8, fds_6_8, B_X8_count_76, fldv_7_6, fds_7_6, fldv_0_3, fds_0_3, cnt_0, B_X8_count_84, fldv_6_9, fds_6_9, B_X8_count_92, fldv_6_10, fds_6_10, B_X8_count_100, wi_invokevirtual, B_X8_count_107, B_X8_count_108, B_X8_count_115, B_X8_count_116, B_X8_count_123, B_X8_count_124, fldv_7_0, fds_7_0, cnt_3, B_X8_count_131, B_X8_count_132, fldv_7_1, fds_7_1, cnt_5, B_X8_count_139, B_X8_count_140, B_X8_count_147, B_X8_count_148, wi_iconst, no0, no1, nz1, nz2, nz3, nz4, nz5, nz7, nz8, Classical.not_not, bz0, bz1, wi_nil, ld_0, ld_s, isIv_I, isLv_L, isRv_R, true_and, and_true, lset_0, lset_1, lset_s, avw_I, avw_L, avw_R, clr_cons, clr_nil, kst_0, kst_1, kstL_0, kstL_1, addk_I, pA_0, pA_s, pD_0, pD_s, wid_nil, wid_cons, rcv_c, putv_I, putv_L, List.length_cons, List.length_nil, List.set_cons_zero, List.set_cons_succ, not_false_eq_true, Nat.reduceMod, Nat.reduceDiv, Nat.reduceEqDiff, Nat.reduceLT, Nat.reduceLeDiff, Nat.reduceAdd, Nat.reduceSub, reduceIte, Nat.lt_irrefl, Nat.zero_ne_one, Nat.one_ne_zero, Nat.zero_add, List.nil_append, List.cons_append, Option.toList_some, Option.toList_none, forall_const, false_implies, true_implies, false_or, or_false, true_or, or_true, i_le, i_lt, i_eq, i_eq0, i_lt0, i_0le, i_0lt, i_le0, i_in1, i_cl, nI_add, pk_mul, pk_sub, i_div, i_rem, i_sh1, i_bit, i_or, i_and, i_andn, nt_le, nf_le, nt_lt, nf_lt, nt_eq, nf_eq, not_true_eq_false, and_self, and_false, false_and, eq_self, Bool.toNat_true, Bool.toNat_false, i_bool, i_bool1, Bool.false_eq_true, Bool.true_eq_false, reduceCtorEq, i_neg1, i_neg2, i_neg3, i_neg4, i_neg5, i_neg6, i_neg7, i_neg8, i_neg9, i_nega, i_negb, i_negc, i_max2, i_min2])
    refine px ?_
    refine x_entry (ls2 := [aR 8 0, aI v]) (Nat.le_of_ble_eq_true rfl) pl_9 rfl (Nat.le_of_ble_eq_true rfl) ?_
    try simp (disch := omega) only [no0, no1, nz1, nz2, nz3, nz4, nz5, nz7, nz8, Classical.not_not, bz0, bz1, wi_nil, ld_0, ld_s, isIv_I, isLv_L, isRv_R, true_and, and_true, lset_0, lset_1, lset_s, avw_I, avw_L, avw_R, clr_cons, clr_nil, kst_0, kst_1, kstL_0, kstL_1, addk_I, pA_0, pA_s, pD_0, pD_s, wid_nil, wid_cons, rcv_c, putv_I, putv_L, List.length_cons, List.length_nil, List.set_cons_zero, List.set_cons_succ, not_false_eq_true, Nat.reduceMod, Nat.reduceDiv, Nat.reduceEqDiff, Nat.reduceLT, Nat.reduceLeDiff, Nat.reduceAdd, Nat.reduceSub, reduceIte, Nat.lt_irrefl, Nat.zero_ne_one, Nat.one_ne_zero, Nat.zero_add, List.nil_append, List.cons_append, Option.toList_some, Option.toList_none, forall_const, false_implies, true_implies, false_or, or_false, true_or, or_true, i_le, i_lt, i_eq, i_eq0, i_lt0, i_0le, i_0lt, i_le0, i_in1, i_cl, nI_add, pk_mul, pk_sub, i_div, i_rem, i_sh1, i_bit, i_or, i_and, i_andn, nt_le, nf_le, nt_lt, nf_lt, nt_eq, nf_eq, not_true_eq_false, and_self, and_false, false_and, eq_self, Bool.toNat_true, Bool.toNat_false, i_bool, i_bool1, Bool.false_eq_true, Bool.true_eq_false, reduceCtorEq, i_neg1, i_neg2, i_neg3, i_neg4, i_neg5, i_neg6, i_neg7, i_neg8, i_neg9, i_nega, i_negb, i_negc, i_max2, i_min2, wi_nil]
    repeat (
      first
      | refine s_X9_count_0 ?_
      | refine s_X9_count_7 ?_
      | refine s_X9_count_15 ?_
      | refine s_X9_count_18 ?_
      | refine s_X9_count_19 ?_
      simp (disch := omega) only [B_X9_count_0, wi_iload_n, wi_iconst, wi_bipush, wi_invokestatic, B_X9_count_7, wi_if_eq, wi_aload_n, wi_invokevirtual, cnt_8, B_X9_count_15, wi_goto, B_X9_count_18, B_X9_count_19, wi_ireturn, no0, no1, nz1, nz2, nz3, nz4, nz5, nz7, nz8, Classical.not_not, bz0, bz1, wi_nil, ld_0, ld_s, isIv_I, isLv_L, isRv_R, true_and, and_true, lset_0, lset_1, lset_s, avw_I, avw_L, avw_R, clr_cons, clr_nil, kst_0, kst_1, kstL_0, kstL_1, addk_I, pA_0, pA_s, pD_0, pD_s, wid_nil, wid_cons, rcv_c, putv_I, putv_L, List.length_cons, List.length_nil, List.set_cons_zero, List.set_cons_succ, not_false_eq_true, Nat.reduceMod, Nat.reduceDiv, Nat.reduceEqDiff, Nat.reduceLT, Nat.reduceLeDiff, Nat.reduceAdd, Nat.reduceSub, reduceIte, Nat.lt_irrefl, Nat.zero_ne_one, Nat.one_ne_zero, Nat.zero_add, List.nil_append, List.cons_append, Option.toList_some, Option.toList_none, forall_const, false_implies, true_implies, false_or, or_false, true_or, or_true, i_le, i_lt, i_eq, i_eq0, i_lt0, i_0le, i_0lt, i_le0, i_in1, i_cl, nI_add, pk_mul, pk_sub, i_div, i_rem, i_sh1, i_bit, i_or, i_and, i_andn, nt_le, nf_le, nt_lt, nf_lt, nt_eq, nf_eq, not_true_eq_false, and_self, and_false, false_and, eq_self, Bool.toNat_true, Bool.toNat_false, i_bool, i_bool1, Bool.false_eq_true, Bool.true_eq_false, reduceCtorEq, i_neg1, i_neg2, i_neg3, i_neg4, i_neg5, i_neg6, i_neg7, i_neg8, i_neg9, i_nega, i_negb, i_negc, i_max2, i_min2])
    refine c_in (inb_le (N := 10) (by decide)) ?_
    try simp (disch := omega) only [no0, no1, nz1, nz2, nz3, nz4, nz5, nz7, nz8, Classical.not_not, bz0, bz1, wi_nil, ld_0, ld_s, isIv_I, isLv_L, isRv_R, true_and, and_true, lset_0, lset_1, lset_s, avw_I, avw_L, avw_R, clr_cons, clr_nil, kst_0, kst_1, kstL_0, kstL_1, addk_I, pA_0, pA_s, pD_0, pD_s, wid_nil, wid_cons, rcv_c, putv_I, putv_L, List.length_cons, List.length_nil, List.set_cons_zero, List.set_cons_succ, not_false_eq_true, Nat.reduceMod, Nat.reduceDiv, Nat.reduceEqDiff, Nat.reduceLT, Nat.reduceLeDiff, Nat.reduceAdd, Nat.reduceSub, reduceIte, Nat.lt_irrefl, Nat.zero_ne_one, Nat.one_ne_zero, Nat.zero_add, List.nil_append, List.cons_append, Option.toList_some, Option.toList_none, forall_const, false_implies, true_implies, false_or, or_false, true_or, or_true, i_le, i_lt, i_eq, i_eq0, i_lt0, i_0le, i_0lt, i_le0, i_in1, i_cl, nI_add, pk_mul, pk_sub, i_div, i_rem, i_sh1, i_bit, i_or, i_and, i_andn, nt_le, nf_le, nt_lt, nf_lt, nt_eq, nf_eq, not_true_eq_false, and_self, and_false, false_and, eq_self, Bool.toNat_true, Bool.toNat_false, i_bool, i_bool1, Bool.false_eq_true, Bool.true_eq_false, reduceCtorEq, i_neg1, i_neg2, i_neg3, i_neg4, i_neg5, i_neg6, i_neg7, i_neg8, i_neg9, i_nega, i_negb, i_negc, i_max2, i_min2, hv, wi_nil]
    repeat (
      first
      | refine s_X9_count_0 ?_
      | refine s_X9_count_7 ?_
      | refine s_X9_count_15 ?_
      | refine s_X9_count_18 ?_
      | refine s_X9_count_19 ?_
      simp (disch := omega) only [B_X9_count_0, wi_iload_n, wi_iconst, wi_bipush, wi_invokestatic, B_X9_count_7, wi_if_eq, wi_aload_n, wi_invokevirtual, cnt_8, B_X9_count_15, wi_goto, B_X9_count_18, B_X9_count_19, wi_ireturn, no0, no1, nz1, nz2, nz3, nz4, nz5, nz7, nz8, Classical.not_not, bz0, bz1, wi_nil, ld_0, ld_s, isIv_I, isLv_L, isRv_R, true_and, and_true, lset_0, lset_1, lset_s, avw_I, avw_L, avw_R, clr_cons, clr_nil, kst_0, kst_1, kstL_0, kstL_1, addk_I, pA_0, pA_s, pD_0, pD_s, wid_nil, wid_cons, rcv_c, putv_I, putv_L, List.length_cons, List.length_nil, List.set_cons_zero, List.set_cons_succ, not_false_eq_true, Nat.reduceMod, Nat.reduceDiv, Nat.reduceEqDiff, Nat.reduceLT, Nat.reduceLeDiff, Nat.reduceAdd, Nat.reduceSub, reduceIte, Nat.lt_irrefl, Nat.zero_ne_one, Nat.one_ne_zero, Nat.zero_add, List.nil_append, List.cons_append, Option.toList_some, Option.toList_none, forall_const, false_implies, true_implies, false_or, or_false, true_or, or_true, i_le, i_lt, i_eq, i_eq0, i_lt0, i_0le, i_0lt, i_le0, i_in1, i_cl, nI_add, pk_mul, pk_sub, i_div, i_rem, i_sh1, i_bit, i_or, i_and, i_andn, nt_le, nf_le, nt_lt, nf_lt, nt_eq, nf_eq, not_true_eq_false, and_self, and_false, false_and, eq_self, Bool.toNat_true, Bool.toNat_false, i_bool, i_bool1, Bool.false_eq_true, Bool.true_eq_false, reduceCtorEq, i_neg1, i_neg2, i_neg3, i_neg4, i_neg5, i_neg6, i_neg7, i_neg8, i_neg9, i_nega, i_negb, i_negc, i_max2, i_min2, hv])
    exact pm h
  · obtain ⟨v, hv2, rfl⟩ := inb_nat hv
    refine c_count hv2 x2 ho x3.1 h1.1 h2.1 x4 ?_
    refine px ?_
    refine x_entry (ls2 := [aR 8 0, aI (nI v)]) (Nat.le_of_ble_eq_true rfl) pl_9 rfl (Nat.le_of_ble_eq_true rfl) ?_
    try simp (disch := omega) only [no0, no1, nz1, nz2, nz3, nz4, nz5, nz7, nz8, Classical.not_not, bz0, bz1, wi_nil, ld_0, ld_s, isIv_I, isLv_L, isRv_R, true_and, and_true, lset_0, lset_1, lset_s, avw_I, avw_L, avw_R, clr_cons, clr_nil, kst_0, kst_1, kstL_0, kstL_1, addk_I, pA_0, pA_s, pD_0, pD_s, wid_nil, wid_cons, rcv_c, putv_I, putv_L, List.length_cons, List.length_nil, List.set_cons_zero, List.set_cons_succ, not_false_eq_true, Nat.reduceMod, Nat.reduceDiv, Nat.reduceEqDiff, Nat.reduceLT, Nat.reduceLeDiff, Nat.reduceAdd, Nat.reduceSub, reduceIte, Nat.lt_irrefl, Nat.zero_ne_one, Nat.one_ne_zero, Nat.zero_add, List.nil_append, List.cons_append, Option.toList_some, Option.toList_none, forall_const, false_implies, true_implies, false_or, or_false, true_or, or_true, i_le, i_lt, i_eq, i_eq0, i_lt0, i_0le, i_0lt, i_le0, i_in1, i_cl, nI_add, pk_mul, pk_sub, i_div, i_rem, i_sh1, i_bit, i_or, i_and, i_andn, nt_le, nf_le, nt_lt, nf_lt, nt_eq, nf_eq, not_true_eq_false, and_self, and_false, false_and, eq_self, Bool.toNat_true, Bool.toNat_false, i_bool, i_bool1, Bool.false_eq_true, Bool.true_eq_false, reduceCtorEq, i_neg1, i_neg2, i_neg3, i_neg4, i_neg5, i_neg6, i_neg7, i_neg8, i_neg9, i_nega, i_negb, i_negc, i_max2, i_min2, wi_nil]
    repeat (
      first
      | refine s_X9_count_0 ?_
      | refine s_X9_count_7 ?_
      | refine s_X9_count_15 ?_
      | refine s_X9_count_18 ?_
      | refine s_X9_count_19 ?_
      simp (disch := omega) only [B_X9_count_0, wi_iload_n, wi_iconst, wi_bipush, wi_invokestatic, B_X9_count_7, wi_if_eq, wi_aload_n, wi_invokevirtual, cnt_8, B_X9_count_15, wi_goto, B_X9_count_18, B_X9_count_19, wi_ireturn, no0, no1, nz1, nz2, nz3, nz4, nz5, nz7, nz8, Classical.not_not, bz0, bz1, wi_nil, ld_0, ld_s, isIv_I, isLv_L, isRv_R, true_and, and_true, lset_0, lset_1, lset_s, avw_I, avw_L, avw_R, clr_cons, clr_nil, kst_0, kst_1, kstL_0, kstL_1, addk_I, pA_0, pA_s, pD_0, pD_s, wid_nil, wid_cons, rcv_c, putv_I, putv_L, List.length_cons, List.length_nil, List.set_cons_zero, List.set_cons_succ, not_false_eq_true, Nat.reduceMod, Nat.reduceDiv, Nat.reduceEqDiff, Nat.reduceLT, Nat.reduceLeDiff, Nat.reduceAdd, Nat.reduceSub, reduceIte, Nat.lt_irrefl, Nat.zero_ne_one, Nat.one_ne_zero, Nat.zero_add, List.nil_append, List.cons_append, Option.toList_some, Option.toList_none, forall_const, false_implies, true_implies, false_or, or_false, true_or, or_true, i_le, i_lt, i_eq, i_eq0, i_lt0, i_0le, i_0lt, i_le0, i_in1, i_cl, nI_add, pk_mul, pk_sub, i_div, i_rem, i_sh1, i_bit, i_or, i_and, i_andn, nt_le, nf_le, nt_lt, nf_lt, nt_eq, nf_eq, not_true_eq_false, and_self, and_false, false_and, eq_self, Bool.toNat_true, Bool.toNat_false, i_bool, i_bool1, Bool.false_eq_true, Bool.true_eq_false, reduceCtorEq, i_neg1, i_neg2, i_neg3, i_neg4, i_neg5, i_neg6, i_neg7, i_neg8, i_neg9, i_nega, i_negb, i_negc, i_max2, i_min2])
    refine c_in (inb_le (N := 10) (by decide)) ?_
    try simp (disch := omega) only [no0, no1, nz1, nz2, nz3, nz4, nz5, nz7, nz8, Classical.not_not, bz0, bz1, wi_nil, ld_0, ld_s, isIv_I, isLv_L, isRv_R, true_and, and_true, lset_0, lset_1, lset_s, avw_I, avw_L, avw_R, clr_cons, clr_nil, kst_0, kst_1, kstL_0, kstL_1, addk_I, pA_0, pA_s, pD_0, pD_s, wid_nil, wid_cons, rcv_c, putv_I, putv_L, List.length_cons, List.length_nil, List.set_cons_zero, List.set_cons_succ, not_false_eq_true, Nat.reduceMod, Nat.reduceDiv, Nat.reduceEqDiff, Nat.reduceLT, Nat.reduceLeDiff, Nat.reduceAdd, Nat.reduceSub, reduceIte, Nat.lt_irrefl, Nat.zero_ne_one, Nat.one_ne_zero, Nat.zero_add, List.nil_append, List.cons_append, Option.toList_some, Option.toList_none, forall_const, false_implies, true_implies, false_or, or_false, true_or, or_true, i_le, i_lt, i_eq, i_eq0, i_lt0, i_0le, i_0lt, i_le0, i_in1, i_cl, nI_add, pk_mul, pk_sub, i_div, i_rem, i_sh1, i_bit, i_or, i_and, i_andn, nt_le, nf_le, nt_lt, nf_lt, nt_eq, nf_eq, not_true_eq_false, and_self, and_false, false_and, eq_self, Bool.toNat_true, Bool.toNat_false, i_bool, i_bool1, Bool.false_eq_true, Bool.true_eq_false, reduceCtorEq, i_neg1, i_neg2, i_neg3, i_neg4, i_neg5, i_neg6, i_neg7, i_neg8, i_neg9, i_nega, i_negb, i_negc, i_max2, i_min2, hv, wi_nil]
    repeat (
      first
      | refine s_X9_count_0 ?_
      | refine s_X9_count_7 ?_
      | refine s_X9_count_15 ?_
      | refine s_X9_count_18 ?_
      | refine s_X9_count_19 ?_
      simp (disch := omega) only [B_X9_count_0, wi_iload_n, wi_iconst, wi_bipush, wi_invokestatic, B_X9_count_7, wi_if_eq, wi_aload_n, wi_invokevirtual, cnt_8, B_X9_count_15, wi_goto, B_X9_count_18, B_X9_count_19, wi_ireturn, no0, no1, nz1, nz2, nz3, nz4, nz5, nz7, nz8, Classical.not_not, bz0, bz1, wi_nil, ld_0, ld_s, isIv_I, isLv_L, isRv_R, true_and, and_true, lset_0, lset_1, lset_s, avw_I, avw_L, avw_R, clr_cons, clr_nil, kst_0, kst_1, kstL_0, kstL_1, addk_I, pA_0, pA_s, pD_0, pD_s, wid_nil, wid_cons, rcv_c, putv_I, putv_L, List.length_cons, List.length_nil, List.set_cons_zero, List.set_cons_succ, not_false_eq_true, Nat.reduceMod, Nat.reduceDiv, Nat.reduceEqDiff, Nat.reduceLT, Nat.reduceLeDiff, Nat.reduceAdd, Nat.reduceSub, reduceIte, Nat.lt_irrefl, Nat.zero_ne_one, Nat.one_ne_zero, Nat.zero_add, List.nil_append, List.cons_append, Option.toList_some, Option.toList_none, forall_const, false_implies, true_implies, false_or, or_false, true_or, or_true, i_le, i_lt, i_eq, i_eq0, i_lt0, i_0le, i_0lt, i_le0, i_in1, i_cl, nI_add, pk_mul, pk_sub, i_div, i_rem, i_sh1, i_bit, i_or, i_and, i_andn, nt_le, nf_le, nt_lt, nf_lt, nt_eq, nf_eq, not_true_eq_false, and_self, and_false, false_and, eq_self, Bool.toNat_true, Bool.toNat_false, i_bool, i_bool1, Bool.false_eq_true, Bool.true_eq_false, reduceCtorEq, i_neg1, i_neg2, i_neg3, i_neg4, i_neg5, i_neg6, i_neg7, i_neg8, i_neg9, i_nega, i_negb, i_negc, i_max2, i_min2, hv])
    refine c_counted hv2 m1 ho m2.1 h1.2 h2.2.1 m3 ?_
    try simp (disch := omega) only [no0, no1, nz1, nz2, nz3, nz4, nz5, nz7, nz8, Classical.not_not, bz0, bz1, wi_nil, ld_0, ld_s, isIv_I, isLv_L, isRv_R, true_and, and_true, lset_0, lset_1, lset_s, avw_I, avw_L, avw_R, clr_cons, clr_nil, kst_0, kst_1, kstL_0, kstL_1, addk_I, pA_0, pA_s, pD_0, pD_s, wid_nil, wid_cons, rcv_c, putv_I, putv_L, List.length_cons, List.length_nil, List.set_cons_zero, List.set_cons_succ, not_false_eq_true, Nat.reduceMod, Nat.reduceDiv, Nat.reduceEqDiff, Nat.reduceLT, Nat.reduceLeDiff, Nat.reduceAdd, Nat.reduceSub, reduceIte, Nat.lt_irrefl, Nat.zero_ne_one, Nat.one_ne_zero, Nat.zero_add, List.nil_append, List.cons_append, Option.toList_some, Option.toList_none, forall_const, false_implies, true_implies, false_or, or_false, true_or, or_true, i_le, i_lt, i_eq, i_eq0, i_lt0, i_0le, i_0lt, i_le0, i_in1, i_cl, nI_add, pk_mul, pk_sub, i_div, i_rem, i_sh1, i_bit, i_or, i_and, i_andn, nt_le, nf_le, nt_lt, nf_lt, nt_eq, nf_eq, not_true_eq_false, and_self, and_false, false_and, eq_self, Bool.toNat_true, Bool.toNat_false, i_bool, i_bool1, Bool.false_eq_true, Bool.true_eq_false, reduceCtorEq, i_neg1, i_neg2, i_neg3, i_neg4, i_neg5, i_neg6, i_neg7, i_neg8, i_neg9, i_nega, i_negb, i_negc, i_max2, i_min2, wi_nil]
    repeat (
      first
      | refine s_X9_count_0 ?_
      | refine s_X9_count_7 ?_
      | refine s_X9_count_15 ?_
      | refine s_X9_count_18 ?_
      | refine s_X9_count_19 ?_
      simp (disch := omega) only [B_X9_count_0, wi_iload_n, wi_iconst, wi_bipush, wi_invokestatic, B_X9_count_7, wi_if_eq, wi_aload_n, wi_invokevirtual, cnt_8, B_X9_count_15, wi_goto, B_X9_count_18, B_X9_count_19, wi_ireturn, no0, no1, nz1, nz2, nz3, nz4, nz5, nz7, nz8, Classical.not_not, bz0, bz1, wi_nil, ld_0, ld_s, isIv_I, isLv_L, isRv_R, true_and, and_true, lset_0, lset_1, lset_s, avw_I, avw_L, avw_R, clr_cons, clr_nil, kst_0, kst_1, kstL_0, kstL_1, addk_I, pA_0, pA_s, pD_0, pD_s, wid_nil, wid_cons, rcv_c, putv_I, putv_L, List.length_cons, List.length_nil, List.set_cons_zero, List.set_cons_succ, not_false_eq_true, Nat.reduceMod, Nat.reduceDiv, Nat.reduceEqDiff, Nat.reduceLT, Nat.reduceLeDiff, Nat.reduceAdd, Nat.reduceSub, reduceIte, Nat.lt_irrefl, Nat.zero_ne_one, Nat.one_ne_zero, Nat.zero_add, List.nil_append, List.cons_append, Option.toList_some, Option.toList_none, forall_const, false_implies, true_implies, false_or, or_false, true_or, or_true, i_le, i_lt, i_eq, i_eq0, i_lt0, i_0le, i_0lt, i_le0, i_in1, i_cl, nI_add, pk_mul, pk_sub, i_div, i_rem, i_sh1, i_bit, i_or, i_and, i_andn, nt_le, nf_le, nt_lt, nf_lt, nt_eq, nf_eq, not_true_eq_false, and_self, and_false, false_and, eq_self, Bool.toNat_true, Bool.toNat_false, i_bool, i_bool1, Bool.false_eq_true, Bool.true_eq_false, reduceCtorEq, i_neg1, i_neg2, i_neg3, i_neg4, i_neg5, i_neg6, i_neg7, i_neg8, i_neg9, i_nega, i_negb, i_negc, i_max2, i_min2])
    exact pm h
end
