-- PART 19: a day, becoming another year, following acts
theorem pp_step {Y Z : Nat → Nat → Nat} {s o i : Nat} (h1 : ∀ f, f < 6 → Z f i = npv Y s o f i) (h2 : ∀ f t, f < 6 → t ≠ i → Z f t = pp Y s o i f t) (h3 : Z 6 3 = Y 6 3 - ofc Y s o (i + 1)) (h4 : ∀ f t, ¬ f < 6 → ¬ (f = 6 ∧ t = 3) → Z f t = Y f t) : Z = pp Y s o (i + 1) := by
  funext f t
  by_cases hf : f < 6
  · by_cases ht : t = i
    · subst ht
      rw [h1 f hf]
      unfold pp
      rw [if_pos hf, if_pos (by omega)]
    · rw [h2 f t hf ht]
      unfold pp
      rw [if_pos hf, if_pos hf]
      by_cases q : t < i
      · rw [if_pos q, if_pos (by omega)]
      · rw [if_neg q, if_neg (by omega)]
  · by_cases q : f = 6 ∧ t = 3
    · rw [q.1, q.2, h3, pp_offs]
    · rw [h4 f t hf q]
      unfold pp
      rw [if_neg hf, if_neg q]
theorem pp_ok {B : Nat} {Y : Nat → Nat → Nat} {s o i : Nat} (h : YOk B Y) : YOk (B + 1) (pp Y s o i) := by
  have h0 := h
  obtain ⟨⟨b0, b1, b2, b3, b4⟩, b5⟩ := h
  refine ⟨⟨by rw [pp_sc (by decide)]; exact b0, by rw [pp_sc (by decide)]; omega, by rw [pp_sc (by decide)]; exact b2, by rw [pp_offs]; omega, by rw [pp_sc (by decide), pp_sc (by decide)]; exact b4⟩, fun t ht => ?_⟩
  rw [pp_sc (show ¬ (0 : Nat) = 3 by decide)] at ht
  have hn := npv_ok (s := s) (o := o) h0 ht
  have ho := b5 t ht
  unfold pp
  by_cases q : t < i
  · simp only [q, if_true, show (0 : Nat) < 6 from by decide, show (1 : Nat) < 6 from by decide, show (2 : Nat) < 6 from by decide, show (3 : Nat) < 6 from by decide, show (4 : Nat) < 6 from by decide, show (5 : Nat) < 6 from by decide]
    exact hn
  · simp only [q, if_true, if_false, show (0 : Nat) < 6 from by decide, show (1 : Nat) < 6 from by decide, show (2 : Nat) < 6 from by decide, show (3 : Nat) < 6 from by decide, show (4 : Nat) < 6 from by decide, show (5 : Nat) < 6 from by decide]
    omega
theorem lt6 {f : Nat} (h : f < 6) : f = 0 ∨ f = 1 ∨ f = 2 ∨ f = 3 ∨ f = 4 ∨ f = 5 := by omega
theorem pp_given {Y : Nat → Nat → Nat} {s o i : Nat} (h : (Y 6 4).testBit i = true) : pp Y s o i = pp Y s o (i + 1) := by
  refine pp_step (fun f hf => ?_) (fun f t hf ht => rfl) ?_ (fun f t hf ht => ?_)
  · rw [pp_low hf (Nat.lt_irrefl i)]
    rcases lt6 hf with rfl | rfl | rfl | rfl | rfl | rfl <;> simp [npv, h]
  · rw [pp_offs, ofc_succ, if_neg (by rw [h]; simp), Nat.add_zero]
  · unfold pp
    rw [if_neg hf, if_neg ht]
theorem pp_kept {Y : Nat → Nat → Nat} {s o i : Nat} (h : (Y 6 4).testBit i = false) (h2 : s.testBit i = true) : yset (yset (yset (pp Y s o i) 2 i (grw (Y 0 i) (Y 2 i))) 4 i (Y 4 i + 1)) 5 i (Y 5 i + 1) = pp Y s o (i + 1) := by
  refine pp_step (fun f hf => ?_) (fun f t hf ht => ?_) ?_ (fun f t hf ht => ?_)
  · rcases lt6 hf with rfl | rfl | rfl | rfl | rfl | rfl <;> simp [npv, h, h2, yset, pp]
  · unfold yset
    rw [if_neg (fun q => ht q.2), if_neg (fun q => ht q.2), if_neg (fun q => ht q.2)]
  · unfold yset
    rw [if_neg (by omega), if_neg (by omega), if_neg (by omega), pp_offs, ofc_succ, if_neg (by rw [h2]; simp), Nat.add_zero]
  · unfold yset
    rw [if_neg (by omega), if_neg (by omega), if_neg (by omega)]
    unfold pp
    rw [if_neg hf, if_neg ht]
theorem pp_off {Y : Nat → Nat → Nat} {s o i : Nat} (h : (Y 6 4).testBit i = false) (h2 : s.testBit i = false) (h3 : o.testBit i = true) : yset (pp Y s o i) 6 3 (pp Y s o i 6 3 - 1) = pp Y s o (i + 1) := by
  refine pp_step (fun f hf => ?_) (fun f t hf ht => ?_) ?_ (fun f t hf ht => ?_)
  · unfold yset
    rw [if_neg (by omega)]
    rcases lt6 hf with rfl | rfl | rfl | rfl | rfl | rfl <;> simp [npv, h, h2, h3, pp]
  · unfold yset
    rw [if_neg (by omega)]
  · unfold yset
    rw [if_pos ⟨rfl, rfl⟩, pp_offs, ofc_succ, if_pos ⟨h, h2, h3⟩]
    omega
  · unfold yset
    rw [if_neg ht]
    unfold pp
    rw [if_neg hf, if_neg ht]
theorem pp_slip {Y : Nat → Nat → Nat} {s o i : Nat} (h : (Y 6 4).testBit i = false) (h2 : s.testBit i = false) (h3 : o.testBit i = false) : yset (yset (pp Y s o i) 2 i (shr (Y 0 i) (Y 2 i))) 4 i 0 = pp Y s o (i + 1) := by
  refine pp_step (fun f hf => ?_) (fun f t hf ht => ?_) ?_ (fun f t hf ht => ?_)
  · rcases lt6 hf with rfl | rfl | rfl | rfl | rfl | rfl <;> simp [npv, h, h2, h3, yset, pp]
  · unfold yset
    rw [if_neg (fun q => ht q.2), if_neg (fun q => ht q.2)]
  · unfold yset
    rw [if_neg (by omega), if_neg (by omega), pp_offs, ofc_succ, if_neg (by rw [h3]; simp), Nat.add_zero]
  · unfold yset
    rw [if_neg (by omega), if_neg (by omega)]
    unfold pp
    rw [if_neg hf, if_neg ht]
section
variable {d j B : Nat} {S : MS} {Y : Nat → Nat → Nat} {P : Option AV → MS → Prop}
theorem l_pass {s o : Nat} {S0 : MS} (hj : j < 5) (ho : YOk B Y) (hB : B < 900) (hs : s < 32) (ho32 : o < 32) (hof : ofc Y s o (Y 6 0) ≤ Y 6 3) (q : ∀ S2, YrX S2 j (psY Y s o) → FY j S0 S2 → P none S2) : ∀ (n i : Nat) (S : MS), i + n = Y 6 0 → YrX S j (pp Y s o i) → FY j S0 S → wpX (d + 2) mX7_pass 2 [aR 6 j, aI (nI s), aI (nI o), aI (nI i)] [] S P := by
  have hn5 := ho.1.1
  intro n
  induction n with
  | zero =>
    intro i S hi hy hf
    refine s_X7_pass_2 ?_
    simp only [B_X7_pass_2, wi_iload_n, wi_aload_n, wi_getfield, fldv_6_7, fds_6_7, cnt_6, wi_icmp_ge, wi_invokevirtual, no0, no1, nz1, nz2, nz3, nz4, nz5, nz7, nz8, Classical.not_not, bz0, bz1, wi_nil, ld_0, ld_s, isIv_I, isLv_L, isRv_R, true_and, and_true, lset_0, lset_1, lset_s, avw_I, avw_L, avw_R, clr_cons, clr_nil, kst_0, kst_1, kstL_0, kstL_1, addk_I, pA_0, pA_s, pD_0, pD_s, wid_nil, wid_cons, rcv_c, putv_I, putv_L, List.length_cons, List.length_nil, List.set_cons_zero, List.set_cons_succ, not_false_eq_true, Nat.reduceMod, Nat.reduceDiv, Nat.reduceEqDiff, Nat.reduceLT, Nat.reduceLeDiff, Nat.reduceAdd, Nat.reduceSub, reduceIte, Nat.lt_irrefl, Nat.zero_ne_one, Nat.one_ne_zero, Nat.zero_add, List.nil_append, List.cons_append, Option.toList_some, Option.toList_none, forall_const, false_implies, true_implies, false_or, or_false, true_or, or_true, hj]
    have e0 := hy.2 0 (by decide)
    rw [pp_sc (by decide)] at e0
    rw [e0, i_le (by omega) (by omega)]
    refine ⟨fun _ => ?_, fun h => absurd (by omega) h⟩
    refine s_X7_pass_130 ?_
    simp only [B_X7_pass_130, wi_aload_n, wi_dup, wi_getfield, fldv_6_8, fds_6_8, cnt_6, wi_iconst, wi_iadd, wi_putfield, pOk_6_8, wi_return_, no0, no1, nz1, nz2, nz3, nz4, nz5, nz7, nz8, Classical.not_not, bz0, bz1, wi_nil, ld_0, ld_s, isIv_I, isLv_L, isRv_R, true_and, and_true, lset_0, lset_1, lset_s, avw_I, avw_L, avw_R, clr_cons, clr_nil, kst_0, kst_1, kstL_0, kstL_1, addk_I, pA_0, pA_s, pD_0, pD_s, wid_nil, wid_cons, rcv_c, putv_I, putv_L, List.length_cons, List.length_nil, List.set_cons_zero, List.set_cons_succ, not_false_eq_true, Nat.reduceMod, Nat.reduceDiv, Nat.reduceEqDiff, Nat.reduceLT, Nat.reduceLeDiff, Nat.reduceAdd, Nat.reduceSub, reduceIte, Nat.lt_irrefl, Nat.zero_ne_one, Nat.one_ne_zero, Nat.zero_add, List.nil_append, List.cons_append, Option.toList_some, Option.toList_none, forall_const, false_implies, true_implies, false_or, or_false, true_or, or_true, hj]
    have e1 := hy.2 1 (by decide)
    rw [pp_sc (by decide)] at e1
    rw [e1, nI_add]
    refine q _ ?_ (hf.trans FY_sI)
    unfold psY
    rw [← show i = Y 6 0 by omega]
    exact yrx_I (t := 1) hy
  | succ n ih =>
    intro i S hi hy hf
    have hi5 : i < 5 := by omega
    have hb := ho.2 i (by omega)
    refine s_X7_pass_2 ?_
    simp only [B_X7_pass_2, wi_iload_n, wi_aload_n, wi_getfield, fldv_6_7, fds_6_7, cnt_6, wi_icmp_ge, wi_invokevirtual, no0, no1, nz1, nz2, nz3, nz4, nz5, nz7, nz8, Classical.not_not, bz0, bz1, wi_nil, ld_0, ld_s, isIv_I, isLv_L, isRv_R, true_and, and_true, lset_0, lset_1, lset_s, avw_I, avw_L, avw_R, clr_cons, clr_nil, kst_0, kst_1, kstL_0, kstL_1, addk_I, pA_0, pA_s, pD_0, pD_s, wid_nil, wid_cons, rcv_c, putv_I, putv_L, List.length_cons, List.length_nil, List.set_cons_zero, List.set_cons_succ, not_false_eq_true, Nat.reduceMod, Nat.reduceDiv, Nat.reduceEqDiff, Nat.reduceLT, Nat.reduceLeDiff, Nat.reduceAdd, Nat.reduceSub, reduceIte, Nat.lt_irrefl, Nat.zero_ne_one, Nat.one_ne_zero, Nat.zero_add, List.nil_append, List.cons_append, Option.toList_some, Option.toList_none, forall_const, false_implies, true_implies, false_or, or_false, true_or, or_true, hj]
    have e0 := hy.2 0 (by decide)
    rw [pp_sc (by decide)] at e0
    rw [e0, i_le (by omega) (by omega)]
    refine ⟨fun h => absurd h (by omega), fun _ => ?_⟩
    refine c_isGiven hj hy (pp_ok ho) hi5 ?_
    rw [pp_sc (by decide)]
    have next : ∀ S2, YrX S2 j (pp Y s o (i + 1)) → FY j S0 S2 → wpX (d + 2) mX7_pass 124 [aR 6 j, aI (nI s), aI (nI o), aI (nI i)] [] S2 P := by
      intro S2 h1 h2
      refine s_X7_pass_124 ?_
      simp only [B_X7_pass_124, wi_iinc, wi_goto, no0, no1, nz1, nz2, nz3, nz4, nz5, nz7, nz8, Classical.not_not, bz0, bz1, wi_nil, ld_0, ld_s, isIv_I, isLv_L, isRv_R, true_and, and_true, lset_0, lset_1, lset_s, avw_I, avw_L, avw_R, clr_cons, clr_nil, kst_0, kst_1, kstL_0, kstL_1, addk_I, pA_0, pA_s, pD_0, pD_s, wid_nil, wid_cons, rcv_c, putv_I, putv_L, List.length_cons, List.length_nil, List.set_cons_zero, List.set_cons_succ, not_false_eq_true, Nat.reduceMod, Nat.reduceDiv, Nat.reduceEqDiff, Nat.reduceLT, Nat.reduceLeDiff, Nat.reduceAdd, Nat.reduceSub, reduceIte, Nat.lt_irrefl, Nat.zero_ne_one, Nat.one_ne_zero, Nat.zero_add, List.nil_append, List.cons_append, Option.toList_some, Option.toList_none, forall_const, false_implies, true_implies, false_or, or_false, true_or, or_true]
      rw [nI_add]
      exact ih (i + 1) S2 (by omega) h1 h2
    refine s_X7_pass_15 ?_
    simp only [B_X7_pass_15, wi_if_eq, wi_goto, no0, no1, nz1, nz2, nz3, nz4, nz5, nz7, nz8, Classical.not_not, bz0, bz1, wi_nil, ld_0, ld_s, isIv_I, isLv_L, isRv_R, true_and, and_true, lset_0, lset_1, lset_s, avw_I, avw_L, avw_R, clr_cons, clr_nil, kst_0, kst_1, kstL_0, kstL_1, addk_I, pA_0, pA_s, pD_0, pD_s, wid_nil, wid_cons, rcv_c, putv_I, putv_L, List.length_cons, List.length_nil, List.set_cons_zero, List.set_cons_succ, not_false_eq_true, Nat.reduceMod, Nat.reduceDiv, Nat.reduceEqDiff, Nat.reduceLT, Nat.reduceLeDiff, Nat.reduceAdd, Nat.reduceSub, reduceIte, Nat.lt_irrefl, Nat.zero_ne_one, Nat.one_ne_zero, Nat.zero_add, List.nil_append, List.cons_append, Option.toList_some, Option.toList_none, forall_const, false_implies, true_implies, false_or, or_false, true_or, or_true]
    rw [i_bool]
    refine ⟨fun hg => ?_, fun hg => next S (by rw [← pp_given (by simpa using hg)]; exact hy) hf⟩
    refine s_X7_pass_21 ?_
    simp only [B_X7_pass_21, wi_iload_n, wi_ishr, wi_iconst, wi_iand, wi_icmp_ne, wi_aload_n, wi_getfield, fldv_6_2, fds_6_2, cnt_6, fldv_6_0, fds_6_0, wi_iaload, wi_invokestatic, cnt_20, aTy_20, aLn_20, arr_20, cnt_22, aTy_22, aLn_22, arr_22, cnt_24, aTy_24, aLn_24, arr_24, cnt_25, aTy_25, aLn_25, arr_25, no0, no1, nz1, nz2, nz3, nz4, nz5, nz7, nz8, Classical.not_not, bz0, bz1, wi_nil, ld_0, ld_s, isIv_I, isLv_L, isRv_R, true_and, and_true, lset_0, lset_1, lset_s, avw_I, avw_L, avw_R, clr_cons, clr_nil, kst_0, kst_1, kstL_0, kstL_1, addk_I, pA_0, pA_s, pD_0, pD_s, wid_nil, wid_cons, rcv_c, putv_I, putv_L, List.length_cons, List.length_nil, List.set_cons_zero, List.set_cons_succ, not_false_eq_true, Nat.reduceMod, Nat.reduceDiv, Nat.reduceEqDiff, Nat.reduceLT, Nat.reduceLeDiff, Nat.reduceAdd, Nat.reduceSub, reduceIte, Nat.lt_irrefl, Nat.zero_ne_one, Nat.one_ne_zero, Nat.zero_add, List.nil_append, List.cons_append, Option.toList_some, Option.toList_none, forall_const, false_implies, true_implies, false_or, or_false, true_or, or_true, hj]
    have g2 := hy.1 2 (by decide) i hi5
    have g0 := hy.1 0 (by decide) i hi5
    rw [pp_low (by decide) (Nat.lt_irrefl i)] at g2 g0
    rw [i_bit (by omega) (by omega), i_bool1, i_cl (by omega), g0, g2]
    refine ⟨fun h1 => ?_, fun h1 => ⟨i_in hi5 (by decide), i_in hi5 (by decide), ?_⟩⟩
    · have h1 : s.testBit i = false := by simpa using h1
      refine s_X7_pass_74 ?_
      simp only [B_X7_pass_74, wi_iload_n, wi_ishr, wi_iconst, wi_iand, wi_icmp_ne, wi_aload_n, wi_dup, wi_getfield, fldv_6_10, fds_6_10, cnt_6, wi_isub, wi_putfield, pOk_6_10, wi_goto, no0, no1, nz1, nz2, nz3, nz4, nz5, nz7, nz8, Classical.not_not, bz0, bz1, wi_nil, ld_0, ld_s, isIv_I, isLv_L, isRv_R, true_and, and_true, lset_0, lset_1, lset_s, avw_I, avw_L, avw_R, clr_cons, clr_nil, kst_0, kst_1, kstL_0, kstL_1, addk_I, pA_0, pA_s, pD_0, pD_s, wid_nil, wid_cons, rcv_c, putv_I, putv_L, List.length_cons, List.length_nil, List.set_cons_zero, List.set_cons_succ, not_false_eq_true, Nat.reduceMod, Nat.reduceDiv, Nat.reduceEqDiff, Nat.reduceLT, Nat.reduceLeDiff, Nat.reduceAdd, Nat.reduceSub, reduceIte, Nat.lt_irrefl, Nat.zero_ne_one, Nat.one_ne_zero, Nat.zero_add, List.nil_append, List.cons_append, Option.toList_some, Option.toList_none, forall_const, false_implies, true_implies, false_or, or_false, true_or, or_true, hj]
      have e3 := hy.2 3 (by decide)
      rw [i_bit (by omega) (by omega), i_bool1, e3]
      refine ⟨fun h2 => ?_, fun h2 => ?_⟩
      · have h2 : o.testBit i = false := by simpa using h2
        refine s_X7_pass_96 ?_
        simp only [B_X7_pass_96, wi_aload_n, wi_getfield, fldv_6_2, fds_6_2, cnt_6, wi_iload_n, fldv_6_0, fds_6_0, wi_iaload, wi_invokestatic, cnt_20, aTy_20, aLn_20, arr_20, cnt_22, aTy_22, aLn_22, arr_22, cnt_24, aTy_24, aLn_24, arr_24, cnt_25, aTy_25, aLn_25, arr_25, no0, no1, nz1, nz2, nz3, nz4, nz5, nz7, nz8, Classical.not_not, bz0, bz1, wi_nil, ld_0, ld_s, isIv_I, isLv_L, isRv_R, true_and, and_true, lset_0, lset_1, lset_s, avw_I, avw_L, avw_R, clr_cons, clr_nil, kst_0, kst_1, kstL_0, kstL_1, addk_I, pA_0, pA_s, pD_0, pD_s, wid_nil, wid_cons, rcv_c, putv_I, putv_L, List.length_cons, List.length_nil, List.set_cons_zero, List.set_cons_succ, not_false_eq_true, Nat.reduceMod, Nat.reduceDiv, Nat.reduceEqDiff, Nat.reduceLT, Nat.reduceLeDiff, Nat.reduceAdd, Nat.reduceSub, reduceIte, Nat.lt_irrefl, Nat.zero_ne_one, Nat.one_ne_zero, Nat.zero_add, List.nil_append, List.cons_append, Option.toList_some, Option.toList_none, forall_const, false_implies, true_implies, false_or, or_false, true_or, or_true, hj]
        rw [i_cl (by omega), g0, g2]
        refine ⟨i_in hi5 (by decide), i_in hi5 (by decide), ?_⟩
        refine c_shrunk (by omega) (by omega) ?_
        refine s_X7_pass_116 ?_
        simp only [B_X7_pass_116, wi_iastore, wi_aload_n, wi_getfield, fldv_6_4, fds_6_4, cnt_6, wi_iload_n, wi_iconst, cnt_20, aTy_20, aLn_20, arr_20, cnt_22, aTy_22, aLn_22, arr_22, cnt_24, aTy_24, aLn_24, arr_24, cnt_25, aTy_25, aLn_25, arr_25, no0, no1, nz1, nz2, nz3, nz4, nz5, nz7, nz8, Classical.not_not, bz0, bz1, wi_nil, ld_0, ld_s, isIv_I, isLv_L, isRv_R, true_and, and_true, lset_0, lset_1, lset_s, avw_I, avw_L, avw_R, clr_cons, clr_nil, kst_0, kst_1, kstL_0, kstL_1, addk_I, pA_0, pA_s, pD_0, pD_s, wid_nil, wid_cons, rcv_c, putv_I, putv_L, List.length_cons, List.length_nil, List.set_cons_zero, List.set_cons_succ, not_false_eq_true, Nat.reduceMod, Nat.reduceDiv, Nat.reduceEqDiff, Nat.reduceLT, Nat.reduceLeDiff, Nat.reduceAdd, Nat.reduceSub, reduceIte, Nat.lt_irrefl, Nat.zero_ne_one, Nat.one_ne_zero, Nat.zero_add, List.nil_append, List.cons_append, Option.toList_some, Option.toList_none, forall_const, false_implies, true_implies, false_or, or_false, true_or, or_true, hj]
        rw [i_cl (by omega)]
        refine ⟨i_in hi5 (by decide), i_in hi5 (by decide), ?_⟩
        refine next _ ?_ ((hf.trans (FY_sA (by decide) (by decide))).trans (FY_sA (by decide) (by decide)))
        rw [← pp_slip hg h1 h2]
        exact yrx_A (f := 4) (v := 0) (yrx_A (f := 2) hy (by decide)) (by decide)
      · have hle := ofc_le (Y := Y) (s := s) (o := o) (Y 6 0) (i + 1) (by omega)
        have hoc : ofc Y s o (i + 1) = ofc Y s o i + 1 := by rw [ofc_succ, if_pos ⟨hg, h1, h2⟩]
        rw [pk_sub (by rw [pp_offs]; omega)]
        refine next _ ?_ (hf.trans FY_sI)
        rw [← pp_off hg h1 h2]
        exact yrx_I (t := 3) hy
    · refine c_grown (by omega) (by omega) ?_
      refine s_X7_pass_50 ?_
      simp only [B_X7_pass_50, wi_iastore, wi_aload_n, wi_getfield, fldv_6_4, fds_6_4, cnt_6, wi_iload_n, wi_dup2, wi_iaload, wi_iconst, wi_iadd, fldv_6_5, fds_6_5, wi_goto, cnt_20, aTy_20, aLn_20, arr_20, cnt_22, aTy_22, aLn_22, arr_22, cnt_24, aTy_24, aLn_24, arr_24, cnt_25, aTy_25, aLn_25, arr_25, no0, no1, nz1, nz2, nz3, nz4, nz5, nz7, nz8, Classical.not_not, bz0, bz1, wi_nil, ld_0, ld_s, isIv_I, isLv_L, isRv_R, true_and, and_true, lset_0, lset_1, lset_s, avw_I, avw_L, avw_R, clr_cons, clr_nil, kst_0, kst_1, kstL_0, kstL_1, addk_I, pA_0, pA_s, pD_0, pD_s, wid_nil, wid_cons, rcv_c, putv_I, putv_L, List.length_cons, List.length_nil, List.set_cons_zero, List.set_cons_succ, not_false_eq_true, Nat.reduceMod, Nat.reduceDiv, Nat.reduceEqDiff, Nat.reduceLT, Nat.reduceLeDiff, Nat.reduceAdd, Nat.reduceSub, reduceIte, Nat.lt_irrefl, Nat.zero_ne_one, Nat.one_ne_zero, Nat.zero_add, List.nil_append, List.cons_append, Option.toList_some, Option.toList_none, forall_const, false_implies, true_implies, false_or, or_false, true_or, or_true, hj]
      have g4 := hy.1 4 (by decide) i hi5
      have g5 := hy.1 5 (by decide) i hi5
      rw [pp_low (by decide) (Nat.lt_irrefl i)] at g4 g5
      rw [i_cl (by omega)]
      refine ⟨i_in hi5 (by decide), i_in hi5 (by decide), i_in hi5 (by decide), i_in hi5 (by decide), i_in hi5 (by decide), ?_⟩
      have ha : gA (sA S 22 j (upd (gA S 22 j) i (nI (grw (Y 0 i) (Y 2 i))))) 24 j = gA S 24 j := by rw [gA_sA, if_neg (by omega)]
      rw [ha, g4, nI_add]
      have hb2 : gA (sA (sA S 22 j (upd (gA S 22 j) i (nI (grw (Y 0 i) (Y 2 i))))) 24 j (upd (gA S 24 j) i (nI (Y 4 i + 1)))) 25 j = gA S 25 j := by rw [gA_sA, if_neg (by omega), gA_sA, if_neg (by omega)]
      rw [hb2, g5, nI_add]
      refine next _ ?_ (((hf.trans (FY_sA (by decide) (by decide))).trans (FY_sA (by decide) (by decide))).trans (FY_sA (by decide) (by decide)))
      rw [← pp_kept hg h1]
      have z1 := yrx_A (f := 2) (i := i) (v := grw (Y 0 i) (Y 2 i)) hy (by decide)
      have z2 := yrx_A (f := 4) (i := i) (v := Y 4 i + 1) z1 (by decide)
      have z3 := yrx_A (f := 5) (i := i) (v := Y 5 i + 1) z2 (by decide)
      rw [show gA (sA S (20 + 2) j (upd (gA S (20 + 2) j) i (nI (grw (Y 0 i) (Y 2 i))))) (20 + 4) j = gA S 24 j from ha] at z3
      rw [show gA (sA (sA S (20 + 2) j (upd (gA S (20 + 2) j) i (nI (grw (Y 0 i) (Y 2 i))))) (20 + 4) j (upd (gA S 24 j) i (nI (Y 4 i + 1)))) (20 + 5) j = gA S 25 j from hb2] at z3
      exact z3
theorem c_pass {s o : Nat} (hj : j < 5) (hy : YrX S j Y) (ho : YOk B Y) (hB : B < 900) (hs : s < 32) (ho32 : o < 32) (hof : ofc Y s o (Y 6 0) ≤ Y 6 3) (q : ∀ S2, YrX S2 j (psY Y s o) → FY j S S2 → P none S2) : wpM (d + 3) mX7_pass [aR 6 j, aI (nI s), aI (nI o)] S P := by
  refine x_entry (ls2 := [aR 6 j, aI (nI s), aI (nI o), aU]) (Nat.le_of_ble_eq_true rfl) pl_7 rfl (Nat.le_of_ble_eq_true rfl) ?_
  refine s_X7_pass_0 ?_
  simp only [B_X7_pass_0, wi_iconst, wi_istore_n, no0, no1, nz1, nz2, nz3, nz4, nz5, nz7, nz8, Classical.not_not, bz0, bz1, wi_nil, ld_0, ld_s, isIv_I, isLv_L, isRv_R, true_and, and_true, lset_0, lset_1, lset_s, avw_I, avw_L, avw_R, clr_cons, clr_nil, kst_0, kst_1, kstL_0, kstL_1, addk_I, pA_0, pA_s, pD_0, pD_s, wid_nil, wid_cons, rcv_c, putv_I, putv_L, List.length_cons, List.length_nil, List.set_cons_zero, List.set_cons_succ, not_false_eq_true, Nat.reduceMod, Nat.reduceDiv, Nat.reduceEqDiff, Nat.reduceLT, Nat.reduceLeDiff, Nat.reduceAdd, Nat.reduceSub, reduceIte, Nat.lt_irrefl, Nat.zero_ne_one, Nat.one_ne_zero, Nat.zero_add, List.nil_append, List.cons_append, Option.toList_some, Option.toList_none, forall_const, false_implies, true_implies, false_or, or_false, true_or, or_true]
  exact l_pass hj ho hB hs ho32 hof q (Y 6 0) 0 S (by omega) (by rw [pp_0]; exact hy) FY.refl
theorem ofc_0 {s : Nat} : ∀ (n : Nat), ofc Y s 0 n = 0 := by
  intro n
  induction n with
  | zero => rfl
  | succ n ih => rw [ofc_succ, ih, if_neg (by rw [Nat.zero_testBit]; simp)]
theorem c_passBy {r : Nat} (hj : j < 5) (hy : YrX S j Y) (ho : YOk B Y) (hB : B < 900) (hr : r < 4) (q : ∀ S2, YrX S2 j (psY Y (chY Y r) 0) → FY j S S2 → P (some (aI (nI (chY Y r)))) S2) : wpM (d + 4) mX7_passBy [aR 6 j, aI (nI r)] S P := by
  refine x_entry (ls2 := [aR 6 j, aI (nI r), aU]) (Nat.le_of_ble_eq_true rfl) pl_7 rfl (Nat.le_of_ble_eq_true rfl) ?_
  refine s_X7_passBy_0 ?_
  simp only [B_X7_passBy_0, wi_aload_n, wi_iload_n, wi_invokevirtual, cnt_6, no0, no1, nz1, nz2, nz3, nz4, nz5, nz7, nz8, Classical.not_not, bz0, bz1, wi_nil, ld_0, ld_s, isIv_I, isLv_L, isRv_R, true_and, and_true, lset_0, lset_1, lset_s, avw_I, avw_L, avw_R, clr_cons, clr_nil, kst_0, kst_1, kstL_0, kstL_1, addk_I, pA_0, pA_s, pD_0, pD_s, wid_nil, wid_cons, rcv_c, putv_I, putv_L, List.length_cons, List.length_nil, List.set_cons_zero, List.set_cons_succ, not_false_eq_true, Nat.reduceMod, Nat.reduceDiv, Nat.reduceEqDiff, Nat.reduceLT, Nat.reduceLeDiff, Nat.reduceAdd, Nat.reduceSub, reduceIte, Nat.lt_irrefl, Nat.zero_ne_one, Nat.one_ne_zero, Nat.zero_add, List.nil_append, List.cons_append, Option.toList_some, Option.toList_none, forall_const, false_implies, true_implies, false_or, or_false, true_or, or_true, hj]
  refine c_choice hj hy ho (by omega) hr (fun g hg => ?_)
  refine s_X7_passBy_5 ?_
  simp only [B_X7_passBy_5, wi_istore_n, wi_aload_n, wi_iload_n, wi_iconst, wi_invokevirtual, cnt_6, no0, no1, nz1, nz2, nz3, nz4, nz5, nz7, nz8, Classical.not_not, bz0, bz1, wi_nil, ld_0, ld_s, isIv_I, isLv_L, isRv_R, true_and, and_true, lset_0, lset_1, lset_s, avw_I, avw_L, avw_R, clr_cons, clr_nil, kst_0, kst_1, kstL_0, kstL_1, addk_I, pA_0, pA_s, pD_0, pD_s, wid_nil, wid_cons, rcv_c, putv_I, putv_L, List.length_cons, List.length_nil, List.set_cons_zero, List.set_cons_succ, not_false_eq_true, Nat.reduceMod, Nat.reduceDiv, Nat.reduceEqDiff, Nat.reduceLT, Nat.reduceLeDiff, Nat.reduceAdd, Nat.reduceSub, reduceIte, Nat.lt_irrefl, Nat.zero_ne_one, Nat.one_ne_zero, Nat.zero_add, List.nil_append, List.cons_append, Option.toList_some, Option.toList_none, forall_const, false_implies, true_implies, false_or, or_false, true_or, or_true, hj]
  refine c_pass hj (yrx_26 hy) ho hB (chY_sub ho r).1 (by decide) (by rw [ofc_0]; exact Nat.zero_le _) (fun S2 h1 h2 => ?_)
  refine s_X7_passBy_12 ?_
  simp only [B_X7_passBy_12, wi_iload_n, wi_ireturn, no0, no1, nz1, nz2, nz3, nz4, nz5, nz7, nz8, Classical.not_not, bz0, bz1, wi_nil, ld_0, ld_s, isIv_I, isLv_L, isRv_R, true_and, and_true, lset_0, lset_1, lset_s, avw_I, avw_L, avw_R, clr_cons, clr_nil, kst_0, kst_1, kstL_0, kstL_1, addk_I, pA_0, pA_s, pD_0, pD_s, wid_nil, wid_cons, rcv_c, putv_I, putv_L, List.length_cons, List.length_nil, List.set_cons_zero, List.set_cons_succ, not_false_eq_true, Nat.reduceMod, Nat.reduceDiv, Nat.reduceEqDiff, Nat.reduceLT, Nat.reduceLeDiff, Nat.reduceAdd, Nat.reduceSub, reduceIte, Nat.lt_irrefl, Nat.zero_ne_one, Nat.one_ne_zero, Nat.zero_add, List.nil_append, List.cons_append, Option.toList_some, Option.toList_none, forall_const, false_implies, true_implies, false_or, or_false, true_or, or_true]
  exact q S2 h1 ((FY_sA (by decide) (by decide)).trans h2)
theorem c_become {i : Nat} (hj : j < 5) (hi : i < 5) (hij : i ≠ j) (hy : YrX S i Y) (q : ∀ S2, YrX S2 j Y → FY j S S2 → P none S2) : wpM (d + 1) mX7_become [aR 6 j, aR 6 i] S P := by
  refine x_entry (ls2 := [aR 6 j, aR 6 i]) (Nat.le_of_ble_eq_true rfl) pl_7 rfl (Nat.le_of_ble_eq_true rfl) ?_
  refine s_X7_become_0 ?_
  simp only [B_X7_become_0, wi_aload_n, wi_getfield, fldv_6_0, fds_6_0, cnt_6, wi_iconst, wi_arraycopy, fldv_6_1, fds_6_1, fldv_6_2, fds_6_2, fldv_6_3, fds_6_3, fldv_6_4, fds_6_4, fldv_6_5, fds_6_5, fldv_6_7, fds_6_7, wi_putfield, pOk_6_7, fldv_6_8, fds_6_8, pOk_6_8, fldv_6_9, fds_6_9, pOk_6_9, fldv_6_10, fds_6_10, pOk_6_10, fldv_6_11, fds_6_11, pOk_6_11, wi_return_, cnt_20, aTy_20, aLn_20, arr_20, cnt_21, aTy_21, aLn_21, arr_21, cnt_22, aTy_22, aLn_22, arr_22, cnt_23, aTy_23, aLn_23, arr_23, cnt_24, aTy_24, aLn_24, arr_24, cnt_25, aTy_25, aLn_25, arr_25, no0, no1, nz1, nz2, nz3, nz4, nz5, nz7, nz8, Classical.not_not, bz0, bz1, wi_nil, ld_0, ld_s, isIv_I, isLv_L, isRv_R, true_and, and_true, lset_0, lset_1, lset_s, avw_I, avw_L, avw_R, clr_cons, clr_nil, kst_0, kst_1, kstL_0, kstL_1, addk_I, pA_0, pA_s, pD_0, pD_s, wid_nil, wid_cons, rcv_c, putv_I, putv_L, List.length_cons, List.length_nil, List.set_cons_zero, List.set_cons_succ, not_false_eq_true, Nat.reduceMod, Nat.reduceDiv, Nat.reduceEqDiff, Nat.reduceLT, Nat.reduceLeDiff, Nat.reduceAdd, Nat.reduceSub, reduceIte, Nat.lt_irrefl, Nat.zero_ne_one, Nat.one_ne_zero, Nat.zero_add, List.nil_append, List.cons_append, Option.toList_some, Option.toList_none, forall_const, false_implies, true_implies, false_or, or_false, true_or, or_true, hj, hi, hij, gI_sI, gI_sL, gI_sA, gL_sI, gL_sL, gL_sA, gA_sI, gA_sL, gA_sA, false_and, and_false, and_self, eq_self, if_true, if_false, sA_sA]
  have cp : ∀ {f g : Nat → Int32} {k : Nat}, k < 5 → va_cpy f g (nI 0).toNatClampNeg (nI 0).toNatClampNeg (nI 5).toNatClampNeg k = f k := by
    intro f g k hk
    rw [i_cl (by decide), i_cl (by decide), pk_cpy_in (by omega) (by omega)]
    congr 1
    omega
  refine ⟨by decide +kernel, by decide +kernel, by decide +kernel, by decide +kernel, by decide +kernel, by decide +kernel, ?_⟩
  refine q _ ⟨fun f hf k hk => ?_, fun t ht => ?_⟩ ?_
  · rcases lt6 hf with rfl | rfl | rfl | rfl | rfl | rfl
    · have := hy.1 0 (by decide) k hk
      simp [gA_sI, gA_sA, cp hk, hij] at this ⊢
      exact this
    · have := hy.1 1 (by decide) k hk
      simp [gA_sI, gA_sA, cp hk, hij] at this ⊢
      exact this
    · have := hy.1 2 (by decide) k hk
      simp [gA_sI, gA_sA, cp hk, hij] at this ⊢
      exact this
    · have := hy.1 3 (by decide) k hk
      simp [gA_sI, gA_sA, cp hk, hij] at this ⊢
      exact this
    · have := hy.1 4 (by decide) k hk
      simp [gA_sI, gA_sA, cp hk, hij] at this ⊢
      exact this
    · have := hy.1 5 (by decide) k hk
      simp [gA_sI, gA_sA, cp hk, hij] at this ⊢
      exact this
  · rcases (show t = 0 ∨ t = 1 ∨ t = 2 ∨ t = 3 ∨ t = 4 by omega) with rfl | rfl | rfl | rfl | rfl
    · have := hy.2 0 (by decide)
      simp [gI_sI, gI_sA, hij] at this ⊢
      exact this
    · have := hy.2 1 (by decide)
      simp [gI_sI, gI_sA, hij] at this ⊢
      exact this
    · have := hy.2 2 (by decide)
      simp [gI_sI, gI_sA, hij] at this ⊢
      exact this
    · have := hy.2 3 (by decide)
      simp [gI_sI, gI_sA, hij] at this ⊢
      exact this
    · have := hy.2 4 (by decide)
      simp [gI_sI, gI_sA, hij] at this ⊢
      exact this
  · have a : ∀ {U : MS} {k : Nat} {r : Nat → Int32}, FY j S U → 20 ≤ k → k ≤ 26 → FY j S (sA U k j r) := fun h h1 h2 => h.trans (FY_sA h1 h2)
    have b : ∀ {U : MS} {f : Nat} {v : Int32}, FY j S U → FY j S (sI U 6 j f v) := fun h => h.trans FY_sI
    exact b (b (b (b (b (a (a (a (a (a (a FY.refl (by decide) (by decide)) (by decide) (by decide)) (by decide) (by decide)) (by decide) (by decide)) (by decide) (by decide)) (by decide) (by decide))))))
theorem c_clear (hj : j < 5) (hy : YrX S j Y) (q : ∀ S2, YrX S2 j (yset (yset (yset (yset (yset Y 6 0 0) 6 1 1) 6 2 0) 6 3 0) 6 4 0) → FY j S S2 → P none S2) : wpM (d + 1) mX7_clear [aR 6 j] S P := by
  refine x_entry (ls2 := [aR 6 j]) (Nat.le_of_ble_eq_true rfl) pl_7 rfl (Nat.le_of_ble_eq_true rfl) ?_
  refine s_X7_clear_0 ?_
  simp only [B_X7_clear_0, wi_aload_n, wi_iconst, wi_putfield, pOk_6_7, cnt_6, pOk_6_8, pOk_6_9, pOk_6_10, pOk_6_11, wi_return_, no0, no1, nz1, nz2, nz3, nz4, nz5, nz7, nz8, Classical.not_not, bz0, bz1, wi_nil, ld_0, ld_s, isIv_I, isLv_L, isRv_R, true_and, and_true, lset_0, lset_1, lset_s, avw_I, avw_L, avw_R, clr_cons, clr_nil, kst_0, kst_1, kstL_0, kstL_1, addk_I, pA_0, pA_s, pD_0, pD_s, wid_nil, wid_cons, rcv_c, putv_I, putv_L, List.length_cons, List.length_nil, List.set_cons_zero, List.set_cons_succ, not_false_eq_true, Nat.reduceMod, Nat.reduceDiv, Nat.reduceEqDiff, Nat.reduceLT, Nat.reduceLeDiff, Nat.reduceAdd, Nat.reduceSub, reduceIte, Nat.lt_irrefl, Nat.zero_ne_one, Nat.one_ne_zero, Nat.zero_add, List.nil_append, List.cons_append, Option.toList_some, Option.toList_none, forall_const, false_implies, true_implies, false_or, or_false, true_or, or_true, hj]
  refine q _ ?_ ?_
  · exact yrx_I (t := 4) (yrx_I (t := 3) (yrx_I (t := 2) (yrx_I (t := 1) (yrx_I (t := 0) hy))))
  · exact ((((FY_sI.trans FY_sI).trans FY_sI).trans FY_sI).trans FY_sI)
/-- a deed more -/
def adY (Y : Nat → Nat → Nat) (k e h p : Nat) : Nat → Nat → Nat := yset (yset (yset (yset (yset (yset (yset Y 0 (Y 6 0) k) 1 (Y 6 0) e) 2 (Y 6 0) h) 3 (Y 6 0) p) 4 (Y 6 0) 0) 5 (Y 6 0) 0) 6 0 (Y 6 0 + 1)
theorem c_addDeed {k e h p : Nat} (hj : j < 5) (hy : YrX S j Y) (hn : Y 6 0 < 5) (q : ∀ S2, YrX S2 j (adY Y k e h p) → FY j S S2 → P none S2) : wpM (d + 1) mX7_addDeed [aR 6 j, aI (nI k), aI (nI e), aI (nI h), aI (nI p)] S P := by
  refine x_entry (ls2 := [aR 6 j, aI (nI k), aI (nI e), aI (nI h), aI (nI p)]) (Nat.le_of_ble_eq_true rfl) pl_7 rfl (Nat.le_of_ble_eq_true rfl) ?_
  refine s_X7_addDeed_0 ?_
  simp only [B_X7_addDeed_0, wi_aload_n, wi_getfield, fldv_6_7, fds_6_7, cnt_6, wi_iconst, wi_icmp_lt, wi_return_, no0, no1, nz1, nz2, nz3, nz4, nz5, nz7, nz8, Classical.not_not, bz0, bz1, wi_nil, ld_0, ld_s, isIv_I, isLv_L, isRv_R, true_and, and_true, lset_0, lset_1, lset_s, avw_I, avw_L, avw_R, clr_cons, clr_nil, kst_0, kst_1, kstL_0, kstL_1, addk_I, pA_0, pA_s, pD_0, pD_s, wid_nil, wid_cons, rcv_c, putv_I, putv_L, List.length_cons, List.length_nil, List.set_cons_zero, List.set_cons_succ, not_false_eq_true, Nat.reduceMod, Nat.reduceDiv, Nat.reduceEqDiff, Nat.reduceLT, Nat.reduceLeDiff, Nat.reduceAdd, Nat.reduceSub, reduceIte, Nat.lt_irrefl, Nat.zero_ne_one, Nat.one_ne_zero, Nat.zero_add, List.nil_append, List.cons_append, Option.toList_some, Option.toList_none, forall_const, false_implies, true_implies, false_or, or_false, true_or, or_true, hj]
  have e0 := hy.2 0 (by decide)
  rw [e0, i_lt (by omega) (by decide)]
  refine ⟨fun _ => ?_, fun h => absurd hn h⟩
  refine s_X7_addDeed_9 ?_
  simp only [B_X7_addDeed_9, wi_aload_n, wi_getfield, fldv_6_0, fds_6_0, cnt_6, fldv_6_7, fds_6_7, wi_iload_n, wi_iastore, fldv_6_1, fds_6_1, fldv_6_2, fds_6_2, fldv_6_3, fds_6_3, wi_iload, fldv_6_4, fds_6_4, wi_iconst, fldv_6_5, fds_6_5, wi_dup, wi_iadd, wi_putfield, pOk_6_7, wi_return_, cnt_20, aTy_20, aLn_20, arr_20, cnt_21, aTy_21, aLn_21, arr_21, cnt_22, aTy_22, aLn_22, arr_22, cnt_23, aTy_23, aLn_23, arr_23, cnt_24, aTy_24, aLn_24, arr_24, cnt_25, aTy_25, aLn_25, arr_25, no0, no1, nz1, nz2, nz3, nz4, nz5, nz7, nz8, Classical.not_not, bz0, bz1, wi_nil, ld_0, ld_s, isIv_I, isLv_L, isRv_R, true_and, and_true, lset_0, lset_1, lset_s, avw_I, avw_L, avw_R, clr_cons, clr_nil, kst_0, kst_1, kstL_0, kstL_1, addk_I, pA_0, pA_s, pD_0, pD_s, wid_nil, wid_cons, rcv_c, putv_I, putv_L, List.length_cons, List.length_nil, List.set_cons_zero, List.set_cons_succ, not_false_eq_true, Nat.reduceMod, Nat.reduceDiv, Nat.reduceEqDiff, Nat.reduceLT, Nat.reduceLeDiff, Nat.reduceAdd, Nat.reduceSub, reduceIte, Nat.lt_irrefl, Nat.zero_ne_one, Nat.one_ne_zero, Nat.zero_add, List.nil_append, List.cons_append, Option.toList_some, Option.toList_none, forall_const, false_implies, true_implies, false_or, or_false, true_or, or_true, hj, gI_sI, gI_sL, gI_sA, gL_sI, gL_sL, gL_sA, gA_sI, gA_sL, gA_sA, false_and, and_false, and_self, eq_self, if_true, if_false, sA_sA]
  simp only [e0, i_cl (show Y 6 0 < 2 ^ 30 by omega), nI_add]
  have hin := i_in hn (by decide)
  refine ⟨hin, hin, hin, hin, hin, hin, ?_⟩
  refine q _ ?_ ?_
  · have z1 := yrx_A (f := 0) (i := Y 6 0) (v := k) hy (by decide)
    have z2 := yrx_A (f := 1) (i := Y 6 0) (v := e) z1 (by decide)
    have z3 := yrx_A (f := 2) (i := Y 6 0) (v := h) z2 (by decide)
    have z4 := yrx_A (f := 3) (i := Y 6 0) (v := p) z3 (by decide)
    have z5 := yrx_A (f := 4) (i := Y 6 0) (v := 0) z4 (by decide)
    have z6 := yrx_A (f := 5) (i := Y 6 0) (v := 0) z5 (by decide)
    have z7 := yrx_I (t := 0) (v := Y 6 0 + 1) z6
    simp only [gA_sA, Nat.reduceAdd, Nat.reduceEqDiff, false_and, if_false] at z7
    exact z7
  · have a : ∀ {U : MS} {k : Nat} {r : Nat → Int32}, FY j S U → 20 ≤ k → k ≤ 26 → FY j S (sA U k j r) := fun h h1 h2 => h.trans (FY_sA h1 h2)
    exact (a (a (a (a (a (a FY.refl (by decide) (by decide)) (by decide) (by decide)) (by decide) (by decide)) (by decide) (by decide)) (by decide) (by decide)) (by decide) (by decide)).trans FY_sI
end
