-- PART 16: a Year as it stands in the cells, and its smaller methods
/-- year j of the state is Y: Y 0 .. Y 5 kinds, efforts, habits, pulls, chains, times; Y 6: how many, day, will, offs, given up -/
def YrX (S : MS) (j : Nat) (Y : Nat → Nat → Nat) : Prop := (∀ f, f < 6 → ∀ i, i < 5 → gA S (20 + f) j i = nI (Y f i)) ∧ ∀ t, t < 5 → gI S 6 j (7 + t) = nI (Y 6 t)
def YOk (B : Nat) (Y : Nat → Nat → Nat) : Prop := (Y 6 0 ≤ 5 ∧ Y 6 1 ≤ B + 1 ∧ Y 6 2 ≤ 40 ∧ Y 6 3 ≤ 9 ∧ Y 6 4 < 2 ^ Y 6 0) ∧ ∀ i, i < Y 6 0 → Y 0 i < 6 ∧ Y 1 i ≤ 9 ∧ Y 2 i ≤ 9 ∧ Y 3 i ≤ 9 ∧ Y 4 i ≤ B ∧ Y 5 i ≤ B
def yset (Y : Nat → Nat → Nat) (f i v : Nat) : Nat → Nat → Nat := fun a b => if a = f ∧ b = i then v else Y a b
/-- what deed i costs -/
def yc (Y : Nat → Nat → Nat) (i : Nat) : Nat := prc (Y 0 i) (Y 1 i) (Y 2 i) (Y 3 i) (Y 4 i) (Y 6 1)
/-- the same, 0 where there is no deed -/
def ycz (Y : Nat → Nat → Nat) (i : Nat) : Nat := if i < Y 6 0 then yc Y i else 0
/-- the deeds not given up -/
def yop (Y : Nat → Nat → Nat) : Nat := (2 ^ Y 6 0 - 1) &&& (31 - Y 6 4)
/-- all but year j is as it was -/
def FY (j : Nat) (S S2 : MS) : Prop := (∀ k i f, ¬ (k = 6 ∧ i = j) → gI S2 k i f = gI S k i f) ∧ (∀ k i f, gL S2 k i f = gL S k i f) ∧ ∀ k i, ¬ (20 ≤ k ∧ k ≤ 26 ∧ i = j) → gA S2 k i = gA S k i
theorem FY.refl {j : Nat} {S : MS} : FY j S S := ⟨fun _ _ _ _ => rfl, fun _ _ _ => rfl, fun _ _ _ => rfl⟩
theorem FY.trans {j : Nat} {S T U : MS} (h1 : FY j S T) (h2 : FY j T U) : FY j S U := ⟨fun k i f h => (h2.1 k i f h).trans (h1.1 k i f h), fun k i f => (h2.2.1 k i f).trans (h1.2.1 k i f), fun k i h => (h2.2.2 k i h).trans (h1.2.2 k i h)⟩
theorem FY_sI {j f : Nat} {S : MS} {v : Int32} : FY j S (sI S 6 j f v) := ⟨fun k i g h => by rw [gI_sI, if_neg (fun q => h ⟨q.1, q.2.1⟩)], fun _ _ _ => rfl, fun _ _ _ => rfl⟩
theorem FY_sA {j k : Nat} {S : MS} {r : Nat → Int32} (h1 : 20 ≤ k) (h2 : k ≤ 26) : FY j S (sA S k j r) := ⟨fun _ _ _ _ => rfl, fun _ _ _ => rfl, fun a b h => by rw [gA_sA, if_neg (fun q => h ⟨by omega, by omega, q.2⟩)]⟩
theorem yrx_other {i j : Nat} {S S2 : MS} {Y : Nat → Nat → Nat} (h : YrX S i Y) (hf : FY j S S2) (hij : i ≠ j) : YrX S2 i Y := ⟨fun f hf1 k hk => by rw [hf.2.2 (20 + f) i (fun q => hij q.2.2)]; exact h.1 f hf1 k hk, fun t ht => by rw [hf.1 6 i (7 + t) (fun q => hij q.2)]; exact h.2 t ht⟩
theorem yrx_26 {i j : Nat} {S : MS} {Y : Nat → Nat → Nat} {r : Nat → Int32} (h : YrX S i Y) : YrX (sA S 26 j r) i Y := ⟨fun f hf k hk => by rw [gA_sA, if_neg (by omega)]; exact h.1 f hf k hk, h.2⟩
theorem yrx_A {j f i v : Nat} {S : MS} {Y : Nat → Nat → Nat} (h : YrX S j Y) (hf : f < 6) : YrX (sA S (20 + f) j (upd (gA S (20 + f) j) i (nI v))) j (yset Y f i v) := by
  refine ⟨fun g hg k hk => ?_, fun t ht => ?_⟩
  · rw [gA_sA]
    unfold yset
    by_cases hgf : g = f
    · subst hgf
      rw [if_pos ⟨rfl, rfl⟩]
      unfold upd
      by_cases hki : k = i
      · rw [if_pos hki, if_pos ⟨rfl, hki⟩]
      · rw [if_neg hki, if_neg (fun q => hki q.2)]
        exact h.1 g hg k hk
    · rw [if_neg (fun q => hgf (by omega)), if_neg (fun q => hgf q.1)]
      exact h.1 g hg k hk
  · unfold yset
    rw [if_neg (by omega)]
    exact h.2 t ht
theorem yrx_I {j t v : Nat} {S : MS} {Y : Nat → Nat → Nat} (h : YrX S j Y) : YrX (sI S 6 j (7 + t) (nI v)) j (yset Y 6 t v) := by
  refine ⟨fun g hg k hk => ?_, fun t2 ht => ?_⟩
  · unfold yset
    rw [if_neg (by omega)]
    exact h.1 g hg k hk
  · rw [gI_sI]
    unfold yset
    by_cases e : t2 = t
    · rw [if_pos ⟨rfl, rfl, by omega⟩, if_pos ⟨rfl, e⟩]
    · rw [if_neg (by omega), if_neg (fun q => e q.2)]
      exact h.2 t2 ht
theorem p2_lt {n : Nat} (h : n ≤ 5) : 2 ^ n ≤ 32 := Nat.pow_le_pow_right (by decide) h
theorem yg_lt {B : Nat} {Y : Nat → Nat → Nat} (h : YOk B Y) : Y 6 4 < 32 := Nat.lt_of_lt_of_le h.1.2.2.2.2 (p2_lt h.1.1)
theorem yop_lt {Y : Nat → Nat → Nat} (h : Y 6 0 ≤ 5) : yop Y < 32 := Nat.lt_of_le_of_lt Nat.and_le_left (by have := p2_lt h; omega)
theorem yop_lt2 {Y : Nat → Nat → Nat} : yop Y < 2 ^ Y 6 0 := Nat.lt_of_le_of_lt Nat.and_le_left (by have := Nat.two_pow_pos (Y 6 0); omega)
theorem yc_le {B : Nat} {Y : Nat → Nat → Nat} (h : YOk B Y) {i : Nat} (hi : i < Y 6 0) : yc Y i ≤ 18 := prc_le (h.2 i hi).2.1 (h.2 i hi).2.2.2.1
section
variable {d j B : Nat} {S : MS} {Y : Nat → Nat → Nat} {P : Option AV → MS → Prop}
theorem c_isGiven {i : Nat} (hj : j < 5) (hy : YrX S j Y) (ho : YOk B Y) (hi : i < 5) (q : P (some (aI (nI ((Y 6 4).testBit i).toNat))) S) : wpM (d + 1) mX7_isGivenUp [aR 6 j, aI (nI i)] S P := by
  refine x_entry (ls2 := [aR 6 j, aI (nI i)]) (Nat.le_of_ble_eq_true rfl) pl_7 rfl (Nat.le_of_ble_eq_true rfl) ?_
  refine s_X7_isGivenUp_0 ?_
  simp only [B_X7_isGivenUp_0, wi_aload_n, wi_getfield, fldv_6_11, fds_6_11, cnt_6, wi_iload_n, wi_ishr, wi_iconst, wi_iand, wi_icmp_ne, wi_goto, no0, no1, nz1, nz2, nz3, nz4, nz5, nz7, nz8, Classical.not_not, bz0, bz1, wi_nil, ld_0, ld_s, isIv_I, isLv_L, isRv_R, true_and, and_true, lset_0, lset_1, lset_s, avw_I, avw_L, avw_R, clr_cons, clr_nil, kst_0, kst_1, kstL_0, kstL_1, addk_I, pA_0, pA_s, pD_0, pD_s, wid_nil, wid_cons, rcv_c, putv_I, putv_L, List.length_cons, List.length_nil, List.set_cons_zero, List.set_cons_succ, not_false_eq_true, Nat.reduceMod, Nat.reduceDiv, Nat.reduceEqDiff, Nat.reduceLT, Nat.reduceLeDiff, Nat.reduceAdd, Nat.reduceSub, reduceIte, Nat.lt_irrefl, Nat.zero_ne_one, Nat.one_ne_zero, Nat.zero_add, List.nil_append, List.cons_append, Option.toList_some, Option.toList_none, forall_const, false_implies, true_implies, false_or, or_false, true_or, or_true, hj]
  rw [hy.2 4 (by decide), i_bit (by have := yg_lt ho; omega) (by omega), i_eq (by cases (Y 6 4).testBit i <;> decide) (by decide)]
  refine ⟨fun h => ?_, fun h => ?_⟩
  · refine s_X7_isGivenUp_16 ?_
    simp only [B_X7_isGivenUp_16, wi_iconst, no0, no1, nz1, nz2, nz3, nz4, nz5, nz7, nz8, Classical.not_not, bz0, bz1, wi_nil, ld_0, ld_s, isIv_I, isLv_L, isRv_R, true_and, and_true, lset_0, lset_1, lset_s, avw_I, avw_L, avw_R, clr_cons, clr_nil, kst_0, kst_1, kstL_0, kstL_1, addk_I, pA_0, pA_s, pD_0, pD_s, wid_nil, wid_cons, rcv_c, putv_I, putv_L, List.length_cons, List.length_nil, List.set_cons_zero, List.set_cons_succ, not_false_eq_true, Nat.reduceMod, Nat.reduceDiv, Nat.reduceEqDiff, Nat.reduceLT, Nat.reduceLeDiff, Nat.reduceAdd, Nat.reduceSub, reduceIte, Nat.lt_irrefl, Nat.zero_ne_one, Nat.one_ne_zero, Nat.zero_add, List.nil_append, List.cons_append, Option.toList_some, Option.toList_none, forall_const, false_implies, true_implies, false_or, or_false, true_or, or_true]
    refine s_X7_isGivenUp_17 ?_
    simp only [B_X7_isGivenUp_17, wi_ireturn, no0, no1, nz1, nz2, nz3, nz4, nz5, nz7, nz8, Classical.not_not, bz0, bz1, wi_nil, ld_0, ld_s, isIv_I, isLv_L, isRv_R, true_and, and_true, lset_0, lset_1, lset_s, avw_I, avw_L, avw_R, clr_cons, clr_nil, kst_0, kst_1, kstL_0, kstL_1, addk_I, pA_0, pA_s, pD_0, pD_s, wid_nil, wid_cons, rcv_c, putv_I, putv_L, List.length_cons, List.length_nil, List.set_cons_zero, List.set_cons_succ, not_false_eq_true, Nat.reduceMod, Nat.reduceDiv, Nat.reduceEqDiff, Nat.reduceLT, Nat.reduceLeDiff, Nat.reduceAdd, Nat.reduceSub, reduceIte, Nat.lt_irrefl, Nat.zero_ne_one, Nat.one_ne_zero, Nat.zero_add, List.nil_append, List.cons_append, Option.toList_some, Option.toList_none, forall_const, false_implies, true_implies, false_or, or_false, true_or, or_true]
    cases hb : (Y 6 4).testBit i
    · rw [hb] at q; exact q
    · rw [hb] at h; exact absurd rfl h
  · refine s_X7_isGivenUp_17 ?_
    simp only [B_X7_isGivenUp_17, wi_ireturn, no0, no1, nz1, nz2, nz3, nz4, nz5, nz7, nz8, Classical.not_not, bz0, bz1, wi_nil, ld_0, ld_s, isIv_I, isLv_L, isRv_R, true_and, and_true, lset_0, lset_1, lset_s, avw_I, avw_L, avw_R, clr_cons, clr_nil, kst_0, kst_1, kstL_0, kstL_1, addk_I, pA_0, pA_s, pD_0, pD_s, wid_nil, wid_cons, rcv_c, putv_I, putv_L, List.length_cons, List.length_nil, List.set_cons_zero, List.set_cons_succ, not_false_eq_true, Nat.reduceMod, Nat.reduceDiv, Nat.reduceEqDiff, Nat.reduceLT, Nat.reduceLeDiff, Nat.reduceAdd, Nat.reduceSub, reduceIte, Nat.lt_irrefl, Nat.zero_ne_one, Nat.one_ne_zero, Nat.zero_add, List.nil_append, List.cons_append, Option.toList_some, Option.toList_none, forall_const, false_implies, true_implies, false_or, or_false, true_or, or_true]
    rw [h] at q
    exact q
theorem c_open (hj : j < 5) (hy : YrX S j Y) (ho : YOk B Y) (q : P (some (aI (nI (yop Y)))) S) : wpM (d + 1) mX7_notGivenUp [aR 6 j] S P := by
  refine x_entry (ls2 := [aR 6 j]) (Nat.le_of_ble_eq_true rfl) pl_7 rfl (Nat.le_of_ble_eq_true rfl) ?_
  refine s_X7_notGivenUp_0 ?_
  simp only [B_X7_notGivenUp_0, wi_iconst, wi_aload_n, wi_getfield, fldv_6_7, fds_6_7, cnt_6, wi_ishl, wi_isub, fldv_6_11, fds_6_11, wi_ixor, wi_iand, wi_ireturn, no0, no1, nz1, nz2, nz3, nz4, nz5, nz7, nz8, Classical.not_not, bz0, bz1, wi_nil, ld_0, ld_s, isIv_I, isLv_L, isRv_R, true_and, and_true, lset_0, lset_1, lset_s, avw_I, avw_L, avw_R, clr_cons, clr_nil, kst_0, kst_1, kstL_0, kstL_1, addk_I, pA_0, pA_s, pD_0, pD_s, wid_nil, wid_cons, rcv_c, putv_I, putv_L, List.length_cons, List.length_nil, List.set_cons_zero, List.set_cons_succ, not_false_eq_true, Nat.reduceMod, Nat.reduceDiv, Nat.reduceEqDiff, Nat.reduceLT, Nat.reduceLeDiff, Nat.reduceAdd, Nat.reduceSub, reduceIte, Nat.lt_irrefl, Nat.zero_ne_one, Nat.one_ne_zero, Nat.zero_add, List.nil_append, List.cons_append, Option.toList_some, Option.toList_none, forall_const, false_implies, true_implies, false_or, or_false, true_or, or_true, hj]
  have h1 := hy.2 0 (by decide)
  have h2 := hy.2 4 (by decide)
  rw [h1, h2, i_sh1 (by have := ho.1.1; omega), pk_sub (Nat.one_le_two_pow), i_andn (by have := p2_lt ho.1.1; omega) (yg_lt ho)]
  exact q
theorem c_priceAs {i k dd : Nat} (hj : j < 5) (hy : YrX S j Y) (ho : YOk B Y) (hB : B < 1000) (hi : i < 5) (hin : i < Y 6 0) (hk : k < 6) (hd : dd < 2000) (q : P (some (aI (nI (prc k (Y 1 i) (Y 2 i) (Y 3 i) (Y 4 i) dd)))) S) : wpM (d + 2) mX7_priceAs [aR 6 j, aI (nI i), aI (nI k), aI (nI dd)] S P := by
  refine x_entry (ls2 := [aR 6 j, aI (nI i), aI (nI k), aI (nI dd)]) (Nat.le_of_ble_eq_true rfl) pl_7 rfl (Nat.le_of_ble_eq_true rfl) ?_
  refine s_X7_priceAs_0 ?_
  simp only [B_X7_priceAs_0, wi_iload_n, wi_aload_n, wi_getfield, fldv_6_1, fds_6_1, cnt_6, wi_iaload, fldv_6_2, fds_6_2, fldv_6_3, fds_6_3, fldv_6_4, fds_6_4, wi_invokestatic, cnt_21, aTy_21, aLn_21, arr_21, cnt_22, aTy_22, aLn_22, arr_22, cnt_23, aTy_23, aLn_23, arr_23, cnt_24, aTy_24, aLn_24, arr_24, no0, no1, nz1, nz2, nz3, nz4, nz5, nz7, nz8, Classical.not_not, bz0, bz1, wi_nil, ld_0, ld_s, isIv_I, isLv_L, isRv_R, true_and, and_true, lset_0, lset_1, lset_s, avw_I, avw_L, avw_R, clr_cons, clr_nil, kst_0, kst_1, kstL_0, kstL_1, addk_I, pA_0, pA_s, pD_0, pD_s, wid_nil, wid_cons, rcv_c, putv_I, putv_L, List.length_cons, List.length_nil, List.set_cons_zero, List.set_cons_succ, not_false_eq_true, Nat.reduceMod, Nat.reduceDiv, Nat.reduceEqDiff, Nat.reduceLT, Nat.reduceLeDiff, Nat.reduceAdd, Nat.reduceSub, reduceIte, Nat.lt_irrefl, Nat.zero_ne_one, Nat.one_ne_zero, Nat.zero_add, List.nil_append, List.cons_append, Option.toList_some, Option.toList_none, forall_const, false_implies, true_implies, false_or, or_false, true_or, or_true, hj]
  have hb := ho.2 i hin
  rw [i_cl (by omega), hy.1 1 (by decide) i hi, hy.1 2 (by decide) i hi, hy.1 3 (by decide) i hi, hy.1 4 (by decide) i hi]
  refine ⟨i_in hi (by decide), i_in hi (by decide), i_in hi (by decide), i_in hi (by decide), ?_⟩
  refine c_price hk (by omega) (by omega) (by omega) (by omega) hd ?_
  refine s_X7_priceAs_29 ?_
  simp only [B_X7_priceAs_29, wi_ireturn, no0, no1, nz1, nz2, nz3, nz4, nz5, nz7, nz8, Classical.not_not, bz0, bz1, wi_nil, ld_0, ld_s, isIv_I, isLv_L, isRv_R, true_and, and_true, lset_0, lset_1, lset_s, avw_I, avw_L, avw_R, clr_cons, clr_nil, kst_0, kst_1, kstL_0, kstL_1, addk_I, pA_0, pA_s, pD_0, pD_s, wid_nil, wid_cons, rcv_c, putv_I, putv_L, List.length_cons, List.length_nil, List.set_cons_zero, List.set_cons_succ, not_false_eq_true, Nat.reduceMod, Nat.reduceDiv, Nat.reduceEqDiff, Nat.reduceLT, Nat.reduceLeDiff, Nat.reduceAdd, Nat.reduceSub, reduceIte, Nat.lt_irrefl, Nat.zero_ne_one, Nat.one_ne_zero, Nat.zero_add, List.nil_append, List.cons_append, Option.toList_some, Option.toList_none, forall_const, false_implies, true_implies, false_or, or_false, true_or, or_true]
  exact q
theorem c_yprice {i : Nat} (hj : j < 5) (hy : YrX S j Y) (ho : YOk B Y) (hB : B < 1000) (hi : i < 5) (hin : i < Y 6 0) (q : P (some (aI (nI (yc Y i)))) S) : wpM (d + 3) mX7_price [aR 6 j, aI (nI i)] S P := by
  refine x_entry (ls2 := [aR 6 j, aI (nI i)]) (Nat.le_of_ble_eq_true rfl) pl_7 rfl (Nat.le_of_ble_eq_true rfl) ?_
  refine s_X7_price_0 ?_
  simp only [B_X7_price_0, wi_aload_n, wi_iload_n, wi_getfield, fldv_6_0, fds_6_0, cnt_6, wi_iaload, fldv_6_8, fds_6_8, wi_invokevirtual, cnt_20, aTy_20, aLn_20, arr_20, no0, no1, nz1, nz2, nz3, nz4, nz5, nz7, nz8, Classical.not_not, bz0, bz1, wi_nil, ld_0, ld_s, isIv_I, isLv_L, isRv_R, true_and, and_true, lset_0, lset_1, lset_s, avw_I, avw_L, avw_R, clr_cons, clr_nil, kst_0, kst_1, kstL_0, kstL_1, addk_I, pA_0, pA_s, pD_0, pD_s, wid_nil, wid_cons, rcv_c, putv_I, putv_L, List.length_cons, List.length_nil, List.set_cons_zero, List.set_cons_succ, not_false_eq_true, Nat.reduceMod, Nat.reduceDiv, Nat.reduceEqDiff, Nat.reduceLT, Nat.reduceLeDiff, Nat.reduceAdd, Nat.reduceSub, reduceIte, Nat.lt_irrefl, Nat.zero_ne_one, Nat.one_ne_zero, Nat.zero_add, List.nil_append, List.cons_append, Option.toList_some, Option.toList_none, forall_const, false_implies, true_implies, false_or, or_false, true_or, or_true, hj]
  have hb := ho.2 i hin
  have h1 := hy.2 1 (by decide)
  rw [i_cl (by omega), hy.1 0 (by decide) i hi, h1]
  refine ⟨i_in hi (by decide), c_priceAs hj hy ho hB hi hin (by omega) (by have := ho.1.2.1; omega) ?_⟩
  refine s_X7_price_15 ?_
  simp only [B_X7_price_15, wi_ireturn, no0, no1, nz1, nz2, nz3, nz4, nz5, nz7, nz8, Classical.not_not, bz0, bz1, wi_nil, ld_0, ld_s, isIv_I, isLv_L, isRv_R, true_and, and_true, lset_0, lset_1, lset_s, avw_I, avw_L, avw_R, clr_cons, clr_nil, kst_0, kst_1, kstL_0, kstL_1, addk_I, pA_0, pA_s, pD_0, pD_s, wid_nil, wid_cons, rcv_c, putv_I, putv_L, List.length_cons, List.length_nil, List.set_cons_zero, List.set_cons_succ, not_false_eq_true, Nat.reduceMod, Nat.reduceDiv, Nat.reduceEqDiff, Nat.reduceLT, Nat.reduceLeDiff, Nat.reduceAdd, Nat.reduceSub, reduceIte, Nat.lt_irrefl, Nat.zero_ne_one, Nat.one_ne_zero, Nat.zero_add, List.nil_append, List.cons_append, Option.toList_some, Option.toList_none, forall_const, false_implies, true_implies, false_or, or_false, true_or, or_true]
  exact q
-- weighed: what each set costs
theorem l_weigh1 {i p : Nat} (hj : j < 5) (hi : i < 5) (hp : p = ycz Y i) (k : ∀ r, (∀ s, s < 2 ^ (i + 1) → r s = nI (csum (ycz Y) 5 s)) → wpX d mX7_weighed 101 [aR 6 j, aI (nI i), aU, aU, aU] [] (sA S 26 j r) P) :
    ∀ (n s : Nat) (r : Nat → Int32), s + n = 2 ^ i → (∀ t, t < 2 ^ i + s → r t = nI (csum (ycz Y) 5 t)) → wpX d mX7_weighed 71 [aR 6 j, aI (nI i), aI (nI (2 ^ i)), aI (nI p), aI (nI s)] [] (sA S 26 j r) P := by
  have hi2 : 2 ^ i ≤ 16 := Nat.pow_le_pow_right (by decide) (show i ≤ 4 by omega)
  intro n
  induction n with
  | zero =>
    intro s r hs hr
    refine s_X7_weighed_71 ?_
    simp only [B_X7_weighed_71, wi_iload, wi_iload_n, wi_icmp_ge, wi_aload_n, wi_getfield, fldv_6_6, fds_6_6, cnt_6, wi_ior, wi_iaload, wi_iadd, wi_iastore, wi_iinc, wi_goto, cnt_20, aTy_20, aLn_20, arr_20, cnt_21, aTy_21, aLn_21, arr_21, cnt_22, aTy_22, aLn_22, arr_22, cnt_23, aTy_23, aLn_23, arr_23, cnt_24, aTy_24, aLn_24, arr_24, cnt_26, aTy_26, aLn_26, arr_26, no0, no1, nz1, nz2, nz3, nz4, nz5, nz7, nz8, Classical.not_not, bz0, bz1, wi_nil, ld_0, ld_s, isIv_I, isLv_L, isRv_R, true_and, and_true, lset_0, lset_1, lset_s, avw_I, avw_L, avw_R, clr_cons, clr_nil, kst_0, kst_1, kstL_0, kstL_1, addk_I, pA_0, pA_s, pD_0, pD_s, wid_nil, wid_cons, rcv_c, putv_I, putv_L, List.length_cons, List.length_nil, List.set_cons_zero, List.set_cons_succ, not_false_eq_true, Nat.reduceMod, Nat.reduceDiv, Nat.reduceEqDiff, Nat.reduceLT, Nat.reduceLeDiff, Nat.reduceAdd, Nat.reduceSub, reduceIte, Nat.lt_irrefl, Nat.zero_ne_one, Nat.one_ne_zero, Nat.zero_add, List.nil_append, List.cons_append, Option.toList_some, Option.toList_none, forall_const, false_implies, true_implies, false_or, or_false, true_or, or_true, hj]
    rw [i_le (by omega) (by omega)]
    refine ⟨fun _ => k r (fun t ht => hr t ?_), fun h => absurd (by omega) h⟩
    rw [Nat.pow_succ] at ht
    omega
  | succ n ih =>
    intro s r hs hr
    refine s_X7_weighed_71 ?_
    simp only [B_X7_weighed_71, wi_iload, wi_iload_n, wi_icmp_ge, wi_aload_n, wi_getfield, fldv_6_6, fds_6_6, cnt_6, wi_ior, wi_iaload, wi_iadd, wi_iastore, wi_iinc, wi_goto, cnt_20, aTy_20, aLn_20, arr_20, cnt_21, aTy_21, aLn_21, arr_21, cnt_22, aTy_22, aLn_22, arr_22, cnt_23, aTy_23, aLn_23, arr_23, cnt_24, aTy_24, aLn_24, arr_24, cnt_26, aTy_26, aLn_26, arr_26, no0, no1, nz1, nz2, nz3, nz4, nz5, nz7, nz8, Classical.not_not, bz0, bz1, wi_nil, ld_0, ld_s, isIv_I, isLv_L, isRv_R, true_and, and_true, lset_0, lset_1, lset_s, avw_I, avw_L, avw_R, clr_cons, clr_nil, kst_0, kst_1, kstL_0, kstL_1, addk_I, pA_0, pA_s, pD_0, pD_s, wid_nil, wid_cons, rcv_c, putv_I, putv_L, List.length_cons, List.length_nil, List.set_cons_zero, List.set_cons_succ, not_false_eq_true, Nat.reduceMod, Nat.reduceDiv, Nat.reduceEqDiff, Nat.reduceLT, Nat.reduceLeDiff, Nat.reduceAdd, Nat.reduceSub, reduceIte, Nat.lt_irrefl, Nat.zero_ne_one, Nat.one_ne_zero, Nat.zero_add, List.nil_append, List.cons_append, Option.toList_some, Option.toList_none, forall_const, false_implies, true_implies, false_or, or_false, true_or, or_true, hj]
    rw [i_le (by omega) (by omega), i_or, b_or (by omega), i_cl (by omega), i_cl (by omega), nI_add, gA_same, sA_sA, hr s (by omega), nI_add, hp, ← csum_add (f := ycz Y) (by omega) hi]
    refine ⟨fun h => absurd h (by omega), fun _ => ⟨i_in (by omega) (by decide), i_in (by omega) (by decide), ?_⟩⟩
    rw [← hp]
    refine ih (s + 1) _ (by omega) (fun t ht => ?_)
    unfold upd
    split
    · rename_i h; rw [h]
    · exact hr t (by omega)
theorem l_weigh2 (hj : j < 5) (hy : YrX S j Y) (ho : YOk B Y) (hB : B < 1000) (k : ∀ r, (∀ s, s < 32 → r s = nI (csum (ycz Y) 5 s)) → P (some (aR 26 j)) (sA S 26 j r)) :
    ∀ (n i : Nat) (r : Nat → Int32), i + n = 5 → (∀ t, t < 2 ^ i → r t = nI (csum (ycz Y) 5 t)) → wpX (d + 1) mX7_weighed 9 [aR 6 j, aI (nI i), aU, aU, aU] [] (sA S 26 j r) P := by
  intro n
  induction n with
  | zero =>
    intro i r hi hr
    refine s_X7_weighed_9 ?_
    simp only [B_X7_weighed_9, wi_iload_n, wi_iconst, wi_icmp_ge, wi_ishl, wi_istore_n, wi_aload_n, wi_getfield, fldv_6_7, fds_6_7, cnt_6, fldv_6_0, fds_6_0, wi_iaload, fldv_6_1, fds_6_1, fldv_6_2, fds_6_2, fldv_6_3, fds_6_3, fldv_6_4, fds_6_4, fldv_6_8, fds_6_8, wi_invokestatic, cnt_20, aTy_20, aLn_20, arr_20, cnt_21, aTy_21, aLn_21, arr_21, cnt_22, aTy_22, aLn_22, arr_22, cnt_23, aTy_23, aLn_23, arr_23, cnt_24, aTy_24, aLn_24, arr_24, cnt_26, aTy_26, aLn_26, arr_26, no0, no1, nz1, nz2, nz3, nz4, nz5, nz7, nz8, Classical.not_not, bz0, bz1, wi_nil, ld_0, ld_s, isIv_I, isLv_L, isRv_R, true_and, and_true, lset_0, lset_1, lset_s, avw_I, avw_L, avw_R, clr_cons, clr_nil, kst_0, kst_1, kstL_0, kstL_1, addk_I, pA_0, pA_s, pD_0, pD_s, wid_nil, wid_cons, rcv_c, putv_I, putv_L, List.length_cons, List.length_nil, List.set_cons_zero, List.set_cons_succ, not_false_eq_true, Nat.reduceMod, Nat.reduceDiv, Nat.reduceEqDiff, Nat.reduceLT, Nat.reduceLeDiff, Nat.reduceAdd, Nat.reduceSub, reduceIte, Nat.lt_irrefl, Nat.zero_ne_one, Nat.one_ne_zero, Nat.zero_add, List.nil_append, List.cons_append, Option.toList_some, Option.toList_none, forall_const, false_implies, true_implies, false_or, or_false, true_or, or_true, hj]
    rw [i_le (by omega) (by omega)]
    refine ⟨fun _ => ?_, fun h => absurd (by omega) h⟩
    refine s_X7_weighed_107 ?_
    simp only [B_X7_weighed_107, wi_aload_n, wi_getfield, fldv_6_6, fds_6_6, cnt_6, wi_areturn, no0, no1, nz1, nz2, nz3, nz4, nz5, nz7, nz8, Classical.not_not, bz0, bz1, wi_nil, ld_0, ld_s, isIv_I, isLv_L, isRv_R, true_and, and_true, lset_0, lset_1, lset_s, avw_I, avw_L, avw_R, clr_cons, clr_nil, kst_0, kst_1, kstL_0, kstL_1, addk_I, pA_0, pA_s, pD_0, pD_s, wid_nil, wid_cons, rcv_c, putv_I, putv_L, List.length_cons, List.length_nil, List.set_cons_zero, List.set_cons_succ, not_false_eq_true, Nat.reduceMod, Nat.reduceDiv, Nat.reduceEqDiff, Nat.reduceLT, Nat.reduceLeDiff, Nat.reduceAdd, Nat.reduceSub, reduceIte, Nat.lt_irrefl, Nat.zero_ne_one, Nat.one_ne_zero, Nat.zero_add, List.nil_append, List.cons_append, Option.toList_some, Option.toList_none, forall_const, false_implies, true_implies, false_or, or_false, true_or, or_true, hj]
    have e : i = 5 := by omega
    subst e
    exact k r hr
  | succ n ih =>
    intro i r hi hr
    have hi5 : i < 5 := by omega
    have hb := ho.2 i
    have hn := ho.1.1
    have hy2 : YrX (sA S 26 j r) j Y := yrx_26 hy
    have last : ∀ p, p = ycz Y i → wpX (d + 1) mX7_weighed 67 [aR 6 j, aI (nI i), aI (nI (2 ^ i)), aU, aU] [aI (nI p)] (sA S 26 j r) P := by
      intro p hp
      refine s_X7_weighed_67 ?_
      simp only [B_X7_weighed_67, wi_istore_n, wi_iconst, wi_istore, no0, no1, nz1, nz2, nz3, nz4, nz5, nz7, nz8, Classical.not_not, bz0, bz1, wi_nil, ld_0, ld_s, isIv_I, isLv_L, isRv_R, true_and, and_true, lset_0, lset_1, lset_s, avw_I, avw_L, avw_R, clr_cons, clr_nil, kst_0, kst_1, kstL_0, kstL_1, addk_I, pA_0, pA_s, pD_0, pD_s, wid_nil, wid_cons, rcv_c, putv_I, putv_L, List.length_cons, List.length_nil, List.set_cons_zero, List.set_cons_succ, not_false_eq_true, Nat.reduceMod, Nat.reduceDiv, Nat.reduceEqDiff, Nat.reduceLT, Nat.reduceLeDiff, Nat.reduceAdd, Nat.reduceSub, reduceIte, Nat.lt_irrefl, Nat.zero_ne_one, Nat.one_ne_zero, Nat.zero_add, List.nil_append, List.cons_append, Option.toList_some, Option.toList_none, forall_const, false_implies, true_implies, false_or, or_false, true_or, or_true]
      refine l_weigh1 hj hi5 hp (fun r2 h2 => ?_) (2 ^ i) 0 r (by omega) (fun t ht => hr t (by omega))
      refine s_X7_weighed_101 ?_
      simp only [B_X7_weighed_101, wi_iinc, wi_goto, no0, no1, nz1, nz2, nz3, nz4, nz5, nz7, nz8, Classical.not_not, bz0, bz1, wi_nil, ld_0, ld_s, isIv_I, isLv_L, isRv_R, true_and, and_true, lset_0, lset_1, lset_s, avw_I, avw_L, avw_R, clr_cons, clr_nil, kst_0, kst_1, kstL_0, kstL_1, addk_I, pA_0, pA_s, pD_0, pD_s, wid_nil, wid_cons, rcv_c, putv_I, putv_L, List.length_cons, List.length_nil, List.set_cons_zero, List.set_cons_succ, not_false_eq_true, Nat.reduceMod, Nat.reduceDiv, Nat.reduceEqDiff, Nat.reduceLT, Nat.reduceLeDiff, Nat.reduceAdd, Nat.reduceSub, reduceIte, Nat.lt_irrefl, Nat.zero_ne_one, Nat.one_ne_zero, Nat.zero_add, List.nil_append, List.cons_append, Option.toList_some, Option.toList_none, forall_const, false_implies, true_implies, false_or, or_false, true_or, or_true]
      rw [nI_add]
      exact ih (i + 1) r2 (by omega) h2
    refine s_X7_weighed_9 ?_
    simp only [B_X7_weighed_9, wi_iload_n, wi_iconst, wi_icmp_ge, wi_ishl, wi_istore_n, wi_aload_n, wi_getfield, fldv_6_7, fds_6_7, cnt_6, fldv_6_0, fds_6_0, wi_iaload, fldv_6_1, fds_6_1, fldv_6_2, fds_6_2, fldv_6_3, fds_6_3, fldv_6_4, fds_6_4, fldv_6_8, fds_6_8, wi_invokestatic, cnt_20, aTy_20, aLn_20, arr_20, cnt_21, aTy_21, aLn_21, arr_21, cnt_22, aTy_22, aLn_22, arr_22, cnt_23, aTy_23, aLn_23, arr_23, cnt_24, aTy_24, aLn_24, arr_24, cnt_26, aTy_26, aLn_26, arr_26, no0, no1, nz1, nz2, nz3, nz4, nz5, nz7, nz8, Classical.not_not, bz0, bz1, wi_nil, ld_0, ld_s, isIv_I, isLv_L, isRv_R, true_and, and_true, lset_0, lset_1, lset_s, avw_I, avw_L, avw_R, clr_cons, clr_nil, kst_0, kst_1, kstL_0, kstL_1, addk_I, pA_0, pA_s, pD_0, pD_s, wid_nil, wid_cons, rcv_c, putv_I, putv_L, List.length_cons, List.length_nil, List.set_cons_zero, List.set_cons_succ, not_false_eq_true, Nat.reduceMod, Nat.reduceDiv, Nat.reduceEqDiff, Nat.reduceLT, Nat.reduceLeDiff, Nat.reduceAdd, Nat.reduceSub, reduceIte, Nat.lt_irrefl, Nat.zero_ne_one, Nat.one_ne_zero, Nat.zero_add, List.nil_append, List.cons_append, Option.toList_some, Option.toList_none, forall_const, false_implies, true_implies, false_or, or_false, true_or, or_true, hj]
    have e0 := hy2.2 0 (by decide)
    have e1 := hy2.2 1 (by decide)
    rw [i_le (by omega) (by omega), i_sh1 (by omega), e0, e1, i_le (by omega) (by omega), i_cl (by omega), hy2.1 0 (by decide) i hi5, hy2.1 1 (by decide) i hi5, hy2.1 2 (by decide) i hi5, hy2.1 3 (by decide) i hi5, hy2.1 4 (by decide) i hi5]
    refine ⟨fun h => absurd h (by omega), fun _ => ⟨fun h => ?_, fun h => ?_⟩⟩
    · refine s_X7_weighed_66 ?_
      simp only [B_X7_weighed_66, wi_iconst, no0, no1, nz1, nz2, nz3, nz4, nz5, nz7, nz8, Classical.not_not, bz0, bz1, wi_nil, ld_0, ld_s, isIv_I, isLv_L, isRv_R, true_and, and_true, lset_0, lset_1, lset_s, avw_I, avw_L, avw_R, clr_cons, clr_nil, kst_0, kst_1, kstL_0, kstL_1, addk_I, pA_0, pA_s, pD_0, pD_s, wid_nil, wid_cons, rcv_c, putv_I, putv_L, List.length_cons, List.length_nil, List.set_cons_zero, List.set_cons_succ, not_false_eq_true, Nat.reduceMod, Nat.reduceDiv, Nat.reduceEqDiff, Nat.reduceLT, Nat.reduceLeDiff, Nat.reduceAdd, Nat.reduceSub, reduceIte, Nat.lt_irrefl, Nat.zero_ne_one, Nat.one_ne_zero, Nat.zero_add, List.nil_append, List.cons_append, Option.toList_some, Option.toList_none, forall_const, false_implies, true_implies, false_or, or_false, true_or, or_true]
      exact last 0 (by unfold ycz; rw [if_neg (by omega)])
    · refine ⟨i_in hi5 (by decide), i_in hi5 (by decide), i_in hi5 (by decide), i_in hi5 (by decide), i_in hi5 (by decide), ?_⟩
      refine c_price (by omega) (by omega) (by omega) (by omega) (by omega) (by have := ho.1.2.1; omega) ?_
      refine s_X7_weighed_63 ?_
      simp only [B_X7_weighed_63, wi_goto, no0, no1, nz1, nz2, nz3, nz4, nz5, nz7, nz8, Classical.not_not, bz0, bz1, wi_nil, ld_0, ld_s, isIv_I, isLv_L, isRv_R, true_and, and_true, lset_0, lset_1, lset_s, avw_I, avw_L, avw_R, clr_cons, clr_nil, kst_0, kst_1, kstL_0, kstL_1, addk_I, pA_0, pA_s, pD_0, pD_s, wid_nil, wid_cons, rcv_c, putv_I, putv_L, List.length_cons, List.length_nil, List.set_cons_zero, List.set_cons_succ, not_false_eq_true, Nat.reduceMod, Nat.reduceDiv, Nat.reduceEqDiff, Nat.reduceLT, Nat.reduceLeDiff, Nat.reduceAdd, Nat.reduceSub, reduceIte, Nat.lt_irrefl, Nat.zero_ne_one, Nat.one_ne_zero, Nat.zero_add, List.nil_append, List.cons_append, Option.toList_some, Option.toList_none, forall_const, false_implies, true_implies, false_or, or_false, true_or, or_true]
      exact last _ (by unfold ycz; rw [if_pos (by omega)]; rfl)
theorem c_weighed (hj : j < 5) (hy : YrX S j Y) (ho : YOk B Y) (hB : B < 1000) (q : ∀ r, (∀ s, s < 32 → r s = nI (csum (ycz Y) 5 s)) → P (some (aR 26 j)) (sA S 26 j r)) : wpM (d + 2) mX7_weighed [aR 6 j] S P := by
  refine x_entry (ls2 := [aR 6 j, aU, aU, aU, aU]) (Nat.le_of_ble_eq_true rfl) pl_7 rfl (Nat.le_of_ble_eq_true rfl) ?_
  refine s_X7_weighed_0 ?_
  simp only [B_X7_weighed_0, wi_aload_n, wi_getfield, fldv_6_6, fds_6_6, cnt_6, wi_iconst, wi_iastore, wi_istore_n, cnt_20, aTy_20, aLn_20, arr_20, cnt_21, aTy_21, aLn_21, arr_21, cnt_22, aTy_22, aLn_22, arr_22, cnt_23, aTy_23, aLn_23, arr_23, cnt_24, aTy_24, aLn_24, arr_24, cnt_26, aTy_26, aLn_26, arr_26, no0, no1, nz1, nz2, nz3, nz4, nz5, nz7, nz8, Classical.not_not, bz0, bz1, wi_nil, ld_0, ld_s, isIv_I, isLv_L, isRv_R, true_and, and_true, lset_0, lset_1, lset_s, avw_I, avw_L, avw_R, clr_cons, clr_nil, kst_0, kst_1, kstL_0, kstL_1, addk_I, pA_0, pA_s, pD_0, pD_s, wid_nil, wid_cons, rcv_c, putv_I, putv_L, List.length_cons, List.length_nil, List.set_cons_zero, List.set_cons_succ, not_false_eq_true, Nat.reduceMod, Nat.reduceDiv, Nat.reduceEqDiff, Nat.reduceLT, Nat.reduceLeDiff, Nat.reduceAdd, Nat.reduceSub, reduceIte, Nat.lt_irrefl, Nat.zero_ne_one, Nat.one_ne_zero, Nat.zero_add, List.nil_append, List.cons_append, Option.toList_some, Option.toList_none, forall_const, false_implies, true_implies, false_or, or_false, true_or, or_true, hj]
  refine ⟨i_in (by decide) (by decide), ?_⟩
  refine l_weigh2 hj hy ho hB q 5 0 _ rfl (fun t ht => ?_)
  rw [i_cl (by decide)]
  have e : t = 0 := by rw [Nat.pow_zero] at ht; omega
  subst e
  rfl
end
