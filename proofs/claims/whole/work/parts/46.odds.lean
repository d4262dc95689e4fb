-- PART 46: odds
/-- the weight of j kept of a -/
def odw (a p j : Nat) : Nat := (12 - p) ^ j * p ^ (a - j)
def odX (a v p n : Nat) : Nat := fb_sm (fun s => if decide (v ≤ bct s) = true then odw a p (bct s) else 0) n
def odM (S v p n : Nat) : Nat := fb_sm (fun k => if (decide (k &&& (31 - S) = 0) && decide (v ≤ bct k)) = true then odw (bct S) p (bct k) else 0) n
theorem sum_by {c : Nat → Bool} {g F : Nat → Nat} {M : Nat} : ∀ (n : Nat), (∀ s, s < n → g s < M) → fb_sm (fun s => if c s = true then F (g s) else 0) n = fb_sm (fun j => fb_ct (fun s => c s && decide (g s = j)) n * F j) M := by
  intro n
  induction n with
  | zero =>
    intro _
    have : ∀ m, fb_sm (fun j => fb_ct (fun s => c s && decide (g s = j)) 0 * F j) m = 0 := by
      intro m
      induction m with
      | zero => rfl
      | succ m ih => rw [fb_sm_succ, ih]; show 0 + 0 * F m = 0; rw [Nat.zero_mul]
    exact (this M).symm
  | succ n ih =>
    intro h
    rw [fb_sm_succ, ih (fun s hs => h s (by omega))]
    have e : (fun j => fb_ct (fun s => c s && decide (g s = j)) (n + 1) * F j) = fun j => fb_ct (fun s => c s && decide (g s = j)) n * F j + (if (c n && decide (g n = j)) = true then F j else 0) := by
      funext j
      rw [fb_ct_succ, Nat.add_mul]
      congr 1
      split
      · rw [Nat.one_mul]
      · rw [Nat.zero_mul]
    rw [e, fb_sm_add]
    congr 1
    have hg := h n (by omega)
    cases hc : c n
    · have : ∀ m, fb_sm (fun j => if (false && decide (g n = j)) = true then F j else 0) m = 0 := by
        intro m
        induction m with
        | zero => rfl
        | succ m ih => rw [fb_sm_succ, ih]; rfl
      rw [this]
      rfl
    · have : ∀ m, fb_sm (fun j => if (true && decide (g n = j)) = true then F j else 0) m = if g n < m then F (g n) else 0 := by
        intro m
        induction m with
        | zero => rw [if_neg (Nat.not_lt_zero _)]; rfl
        | succ m ih =>
          rw [fb_sm_succ, ih, Bool.true_and]
          by_cases q : g n = m
          · rw [decide_eq_true q, if_pos rfl, if_neg (show ¬ g n < m by omega), if_pos (show g n < m + 1 by omega), q, Nat.zero_add]
          · rw [decide_eq_false q, if_neg (show ¬ (false = true) by decide), Nat.add_zero]
            by_cases q2 : g n < m
            · rw [if_pos q2, if_pos (by omega)]
            · rw [if_neg q2, if_neg (by omega)]
      rw [this, if_pos hg, if_pos rfl]
set_option maxRecDepth 100000 in
theorem od_ct {S v j : Nat} (hS : S < 32) (hv : v < 6) (hj : j < 7) : fb_ct (fun s => decide (v ≤ bct s) && decide (bct s = j)) (2 ^ bct S) = fb_ct (fun k => (decide (k &&& (31 - S) = 0) && decide (v ≤ bct k)) && decide (bct k = j)) (S + 1) := fin3 (p := fun S v j => fb_ct (fun s => decide (v ≤ bct s) && decide (bct s = j)) (2 ^ bct S) = fb_ct (fun k => (decide (k &&& (31 - S) = 0) && decide (v ≤ bct k)) && decide (bct k = j)) (S + 1)) (n := 32) (m := 6) (l := 7) (by decide +kernel) hS hv hj
theorem bct5 {S : Nat} (hS : S < 32) : bct S ≤ 5 := fin1 (p := fun S => bct S ≤ 5) (n := 32) (by decide +kernel) hS
theorem od_eq {S v p : Nat} (hS : S < 32) (hv : v < 6) : odX (bct S) v p (2 ^ bct S) = odM S v p (S + 1) := by
  have h5 := bct5 hS
  have h32 : 2 ^ bct S ≤ 32 := p2_lt h5
  unfold odX odM
  rw [sum_by (F := odw (bct S) p) (g := bct) (M := 7) _ (fun s hs => by have := bct_lt (s := s) (by omega); omega), sum_by (F := odw (bct S) p) (g := bct) (M := 7) _ (fun s hs => by have := bct_lt (s := s) (by omega); omega)]
  refine fb_sm_cong (fun j hj => ?_)
  rw [od_ct hS hv hj]
theorem odw_le {a p j : Nat} (hp : p ≤ 12) (ha : a ≤ 5) (hj : j ≤ a) : odw a p j ≤ 248832 := by
  have h1 : (12 - p) ^ j ≤ 12 ^ j := Nat.pow_le_pow_left (by omega) j
  have h2 : p ^ (a - j) ≤ 12 ^ (a - j) := Nat.pow_le_pow_left hp _
  have h3 := Nat.mul_le_mul h1 h2
  rw [← Nat.pow_add, show j + (a - j) = a by omega] at h3
  have h4 : 12 ^ a ≤ 12 ^ 5 := Nat.pow_le_pow_right (by decide) ha
  unfold odw
  have h5 : 12 ^ 5 = 248832 := by decide
  omega
section
variable {d B : Nat} {S T : MS} {Y Y0 : Nat → Nat → Nat} {P : Option AV → MS → Prop}
theorem l_power {b t : Nat} (hb : b ≤ 12) (ht : t ≤ 5) (q : P (some (aL (lN (b ^ t)))) S) : ∀ (m k : Nat), k + m = t → wpX d mX8_power 5 [aI (nI b), aI (nI t), aL (lN (b ^ k)), aU, aI (nI k)] [] S P := by
  intro m
  induction m with
  | zero =>
    intro k hk
    have e : k = t := by omega
    subst e
    refine s_X8_power_5 ?_
    simp (disch := omega) only [B_X8_power_5, wi_iload, wi_iload_n, wi_icmp_ge, wi_lload_n, wi_i2l, wi_lmul, wi_lstore_n, wi_iinc, wi_goto, no0, no1, nz1, nz2, nz3, nz4, nz5, nz7, nz8, Classical.not_not, bz0, bz1, wi_nil, ld_0, ld_s, isIv_I, isLv_L, isRv_R, true_and, and_true, lset_0, lset_1, lset_s, avw_I, avw_L, avw_R, clr_cons, clr_nil, kst_0, kst_1, kstL_0, kstL_1, addk_I, pA_0, pA_s, pD_0, pD_s, wid_nil, wid_cons, rcv_c, putv_I, putv_L, List.length_cons, List.length_nil, List.set_cons_zero, List.set_cons_succ, not_false_eq_true, Nat.reduceMod, Nat.reduceDiv, Nat.reduceEqDiff, Nat.reduceLT, Nat.reduceLeDiff, Nat.reduceAdd, Nat.reduceSub, reduceIte, Nat.lt_irrefl, Nat.zero_ne_one, Nat.one_ne_zero, Nat.zero_add, List.nil_append, List.cons_append, Option.toList_some, Option.toList_none, forall_const, false_implies, true_implies, false_or, or_false, true_or, or_true, i_le, i_lt, i_eq, i_eq0, i_lt0, i_0le, i_0lt, i_le0, i_in1, i_cl, nI_add, pk_mul, pk_sub, i_div, i_rem, i_sh1, i_bit, i_or, i_and, i_andn, nt_le, nf_le, nt_lt, nf_lt, nt_eq, nf_eq, not_true_eq_false, and_self, and_false, false_and, eq_self, Bool.toNat_true, Bool.toNat_false, i_bool, i_bool1, Bool.false_eq_true, Bool.true_eq_false, reduceCtorEq, i_neg1, i_neg2, i_neg3, i_neg4, i_neg5, i_neg6, i_neg7, i_neg8, i_neg9, i_nega, i_negb, i_negc, i_max2, i_min2]
    try simp (disch := omega) only [no0, no1, nz1, nz2, nz3, nz4, nz5, nz7, nz8, Classical.not_not, bz0, bz1, wi_nil, ld_0, ld_s, isIv_I, isLv_L, isRv_R, true_and, and_true, lset_0, lset_1, lset_s, avw_I, avw_L, avw_R, clr_cons, clr_nil, kst_0, kst_1, kstL_0, kstL_1, addk_I, pA_0, pA_s, pD_0, pD_s, wid_nil, wid_cons, rcv_c, putv_I, putv_L, List.length_cons, List.length_nil, List.set_cons_zero, List.set_cons_succ, not_false_eq_true, Nat.reduceMod, Nat.reduceDiv, Nat.reduceEqDiff, Nat.reduceLT, Nat.reduceLeDiff, Nat.reduceAdd, Nat.reduceSub, reduceIte, Nat.lt_irrefl, Nat.zero_ne_one, Nat.one_ne_zero, Nat.zero_add, List.nil_append, List.cons_append, Option.toList_some, Option.toList_none, forall_const, false_implies, true_implies, false_or, or_false, true_or, or_true, i_le, i_lt, i_eq, i_eq0, i_lt0, i_0le, i_0lt, i_le0, i_in1, i_cl, nI_add, pk_mul, pk_sub, i_div, i_rem, i_sh1, i_bit, i_or, i_and, i_andn, nt_le, nf_le, nt_lt, nf_lt, nt_eq, nf_eq, not_true_eq_false, and_self, and_false, false_and, eq_self, Bool.toNat_true, Bool.toNat_false, i_bool, i_bool1, Bool.false_eq_true, Bool.true_eq_false, reduceCtorEq, i_neg1, i_neg2, i_neg3, i_neg4, i_neg5, i_neg6, i_neg7, i_neg8, i_neg9, i_nega, i_negb, i_negc, i_max2, i_min2, wi_nil]
    repeat (
      first
      | refine s_X8_power_0 ?_
      | refine s_X8_power_22 ?_
      simp (disch := omega) only [B_X8_power_0, wi_lconst, wi_lstore_n, wi_iconst, wi_istore, B_X8_power_5, wi_iload, wi_iload_n, wi_icmp_ge, wi_lload_n, wi_i2l, wi_lmul, wi_iinc, wi_goto, B_X8_power_22, wi_lreturn, no0, no1, nz1, nz2, nz3, nz4, nz5, nz7, nz8, Classical.not_not, bz0, bz1, wi_nil, ld_0, ld_s, isIv_I, isLv_L, isRv_R, true_and, and_true, lset_0, lset_1, lset_s, avw_I, avw_L, avw_R, clr_cons, clr_nil, kst_0, kst_1, kstL_0, kstL_1, addk_I, pA_0, pA_s, pD_0, pD_s, wid_nil, wid_cons, rcv_c, putv_I, putv_L, List.length_cons, List.length_nil, List.set_cons_zero, List.set_cons_succ, not_false_eq_true, Nat.reduceMod, Nat.reduceDiv, Nat.reduceEqDiff, Nat.reduceLT, Nat.reduceLeDiff, Nat.reduceAdd, Nat.reduceSub, reduceIte, Nat.lt_irrefl, Nat.zero_ne_one, Nat.one_ne_zero, Nat.zero_add, List.nil_append, List.cons_append, Option.toList_some, Option.toList_none, forall_const, false_implies, true_implies, false_or, or_false, true_or, or_true, i_le, i_lt, i_eq, i_eq0, i_lt0, i_0le, i_0lt, i_le0, i_in1, i_cl, nI_add, pk_mul, pk_sub, i_div, i_rem, i_sh1, i_bit, i_or, i_and, i_andn, nt_le, nf_le, nt_lt, nf_lt, nt_eq, nf_eq, not_true_eq_false, and_self, and_false, false_and, eq_self, Bool.toNat_true, Bool.toNat_false, i_bool, i_bool1, Bool.false_eq_true, Bool.true_eq_false, reduceCtorEq, i_neg1, i_neg2, i_neg3, i_neg4, i_neg5, i_neg6, i_neg7, i_neg8, i_neg9, i_nega, i_negb, i_negc, i_max2, i_min2])
    exact q
  | succ m ih =>
    intro k hk
    have hnx := ih (k + 1) (by omega)
    rw [Nat.pow_succ] at hnx
    refine s_X8_power_5 ?_
    simp (disch := omega) only [B_X8_power_5, wi_iload, wi_iload_n, wi_icmp_ge, wi_lload_n, wi_i2l, wi_lmul, wi_lstore_n, wi_iinc, wi_goto, no0, no1, nz1, nz2, nz3, nz4, nz5, nz7, nz8, Classical.not_not, bz0, bz1, wi_nil, ld_0, ld_s, isIv_I, isLv_L, isRv_R, true_and, and_true, lset_0, lset_1, lset_s, avw_I, avw_L, avw_R, clr_cons, clr_nil, kst_0, kst_1, kstL_0, kstL_1, addk_I, pA_0, pA_s, pD_0, pD_s, wid_nil, wid_cons, rcv_c, putv_I, putv_L, List.length_cons, List.length_nil, List.set_cons_zero, List.set_cons_succ, not_false_eq_true, Nat.reduceMod, Nat.reduceDiv, Nat.reduceEqDiff, Nat.reduceLT, Nat.reduceLeDiff, Nat.reduceAdd, Nat.reduceSub, reduceIte, Nat.lt_irrefl, Nat.zero_ne_one, Nat.one_ne_zero, Nat.zero_add, List.nil_append, List.cons_append, Option.toList_some, Option.toList_none, forall_const, false_implies, true_implies, false_or, or_false, true_or, or_true, i_le, i_lt, i_eq, i_eq0, i_lt0, i_0le, i_0lt, i_le0, i_in1, i_cl, nI_add, pk_mul, pk_sub, i_div, i_rem, i_sh1, i_bit, i_or, i_and, i_andn, nt_le, nf_le, nt_lt, nf_lt, nt_eq, nf_eq, not_true_eq_false, and_self, and_false, false_and, eq_self, Bool.toNat_true, Bool.toNat_false, i_bool, i_bool1, Bool.false_eq_true, Bool.true_eq_false, reduceCtorEq, i_neg1, i_neg2, i_neg3, i_neg4, i_neg5, i_neg6, i_neg7, i_neg8, i_neg9, i_nega, i_negb, i_negc, i_max2, i_min2, nI_l, lN_mul]
    exact hnx
theorem c_power {b t : Nat} (hb : b ≤ 12) (ht : t ≤ 5) (q : P (some (aL (lN (b ^ t)))) S) : wpM (d + 1) mX8_power [aI (nI b), aI (nI t)] S P := by
  refine x_entry (ls2 := [aI (nI b), aI (nI t), aU, aU, aU]) (Nat.le_of_ble_eq_true rfl) pl_8 rfl (Nat.le_of_ble_eq_true rfl) ?_
  try simp (disch := omega) only [no0, no1, nz1, nz2, nz3, nz4, nz5, nz7, nz8, Classical.not_not, bz0, bz1, wi_nil, ld_0, ld_s, isIv_I, isLv_L, isRv_R, true_and, and_true, lset_0, lset_1, lset_s, avw_I, avw_L, avw_R, clr_cons, clr_nil, kst_0, kst_1, kstL_0, kstL_1, addk_I, pA_0, pA_s, pD_0, pD_s, wid_nil, wid_cons, rcv_c, putv_I, putv_L, List.length_cons, List.length_nil, List.set_cons_zero, List.set_cons_succ, not_false_eq_true, Nat.reduceMod, Nat.reduceDiv, Nat.reduceEqDiff, Nat.reduceLT, Nat.reduceLeDiff, Nat.reduceAdd, Nat.reduceSub, reduceIte, Nat.lt_irrefl, Nat.zero_ne_one, Nat.one_ne_zero, Nat.zero_add, List.nil_append, List.cons_append, Option.toList_some, Option.toList_none, forall_const, false_implies, true_implies, false_or, or_false, true_or, or_true, i_le, i_lt, i_eq, i_eq0, i_lt0, i_0le, i_0lt, i_le0, i_in1, i_cl, nI_add, pk_mul, pk_sub, i_div, i_rem, i_sh1, i_bit, i_or, i_and, i_andn, nt_le, nf_le, nt_lt, nf_lt, nt_eq, nf_eq, not_true_eq_false, and_self, and_false, false_and, eq_self, Bool.toNat_true, Bool.toNat_false, i_bool, i_bool1, Bool.false_eq_true, Bool.true_eq_false, reduceCtorEq, i_neg1, i_neg2, i_neg3, i_neg4, i_neg5, i_neg6, i_neg7, i_neg8, i_neg9, i_nega, i_negb, i_negc, i_max2, i_min2, wi_nil]
  repeat (
    first
    | refine s_X8_power_0 ?_
    | refine s_X8_power_22 ?_
    simp (disch := omega) only [B_X8_power_0, wi_lconst, wi_lstore_n, wi_iconst, wi_istore, B_X8_power_5, wi_iload, wi_iload_n, wi_icmp_ge, wi_lload_n, wi_i2l, wi_lmul, wi_iinc, wi_goto, B_X8_power_22, wi_lreturn, no0, no1, nz1, nz2, nz3, nz4, nz5, nz7, nz8, Classical.not_not, bz0, bz1, wi_nil, ld_0, ld_s, isIv_I, isLv_L, isRv_R, true_and, and_true, lset_0, lset_1, lset_s, avw_I, avw_L, avw_R, clr_cons, clr_nil, kst_0, kst_1, kstL_0, kstL_1, addk_I, pA_0, pA_s, pD_0, pD_s, wid_nil, wid_cons, rcv_c, putv_I, putv_L, List.length_cons, List.length_nil, List.set_cons_zero, List.set_cons_succ, not_false_eq_true, Nat.reduceMod, Nat.reduceDiv, Nat.reduceEqDiff, Nat.reduceLT, Nat.reduceLeDiff, Nat.reduceAdd, Nat.reduceSub, reduceIte, Nat.lt_irrefl, Nat.zero_ne_one, Nat.one_ne_zero, Nat.zero_add, List.nil_append, List.cons_append, Option.toList_some, Option.toList_none, forall_const, false_implies, true_implies, false_or, or_false, true_or, or_true, i_le, i_lt, i_eq, i_eq0, i_lt0, i_0le, i_0lt, i_le0, i_in1, i_cl, nI_add, pk_mul, pk_sub, i_div, i_rem, i_sh1, i_bit, i_or, i_and, i_andn, nt_le, nf_le, nt_lt, nf_lt, nt_eq, nf_eq, not_true_eq_false, and_self, and_false, false_and, eq_self, Bool.toNat_true, Bool.toNat_false, i_bool, i_bool1, Bool.false_eq_true, Bool.true_eq_false, reduceCtorEq, i_neg1, i_neg2, i_neg3, i_neg4, i_neg5, i_neg6, i_neg7, i_neg8, i_neg9, i_nega, i_negb, i_negc, i_max2, i_min2])
  exact l_power hb ht q t 0 (by omega)
theorem od_leX {a v p : Nat} (hp : p ≤ 12) (ha : a ≤ 5) : ∀ n, n ≤ 2 ^ a → odX a v p n ≤ 248832 * n := by
  intro n
  induction n with
  | zero => intro _; exact Nat.le_refl 0
  | succ n ih =>
    intro hn
    have := ih (by omega)
    have hw : (if decide (v ≤ bct n) = true then odw a p (bct n) else 0) ≤ 248832 := by
      split
      · exact odw_le hp ha (bct_le_n a ha n (by omega))
      · omega
    unfold odX at this ⊢
    rw [fb_sm_succ]
    omega
theorem l_xodds {a v p : Nat} (hp : p ≤ 12) (ha : a ≤ 5) (hv : v ≤ 5) (q : wpX (d + 9) mX8_odds 102 [aR 7 0, aU, aU, aI (nI a), aL (lN (odX a v p (2 ^ a))), aU, aU, aU] [] S P) : ∀ (m s : Nat), s + m = 2 ^ a → wpX (d + 9) mX8_odds 52 [aR 7 0, aI (nI v), aI (nI p), aI (nI a), aL (lN (odX a v p s)), aU, aI (nI s), aU] [] S P := by
  have h32 : 2 ^ a ≤ 32 := p2_lt ha
  intro m
  induction m with
  | zero =>
    intro s hs
    have e : s = 2 ^ a := by omega
    subst e
    refine s_X8_odds_52 ?_
    simp (disch := omega) only [B_X8_odds_52, wi_iload, wi_iconst, wi_iload_n, wi_ishl, wi_icmp_ge, wi_invokestatic, no0, no1, nz1, nz2, nz3, nz4, nz5, nz7, nz8, Classical.not_not, bz0, bz1, wi_nil, ld_0, ld_s, isIv_I, isLv_L, isRv_R, true_and, and_true, lset_0, lset_1, lset_s, avw_I, avw_L, avw_R, clr_cons, clr_nil, kst_0, kst_1, kstL_0, kstL_1, addk_I, pA_0, pA_s, pD_0, pD_s, wid_nil, wid_cons, rcv_c, putv_I, putv_L, List.length_cons, List.length_nil, List.set_cons_zero, List.set_cons_succ, not_false_eq_true, Nat.reduceMod, Nat.reduceDiv, Nat.reduceEqDiff, Nat.reduceLT, Nat.reduceLeDiff, Nat.reduceAdd, Nat.reduceSub, reduceIte, Nat.lt_irrefl, Nat.zero_ne_one, Nat.one_ne_zero, Nat.zero_add, List.nil_append, List.cons_append, Option.toList_some, Option.toList_none, forall_const, false_implies, true_implies, false_or, or_false, true_or, or_true, i_le, i_lt, i_eq, i_eq0, i_lt0, i_0le, i_0lt, i_le0, i_in1, i_cl, nI_add, pk_mul, pk_sub, i_div, i_rem, i_sh1, i_bit, i_or, i_and, i_andn, nt_le, nf_le, nt_lt, nf_lt, nt_eq, nf_eq, not_true_eq_false, and_self, and_false, false_and, eq_self, Bool.toNat_true, Bool.toNat_false, i_bool, i_bool1, Bool.false_eq_true, Bool.true_eq_false, reduceCtorEq, i_neg1, i_neg2, i_neg3, i_neg4, i_neg5, i_neg6, i_neg7, i_neg8, i_neg9, i_nega, i_negb, i_negc, i_max2, i_min2]
    exact q
  | succ m ih =>
    intro s hs
    have hb := bct_le_n a ha s (by omega)
    have hle := od_leX (v := v) hp ha s (by omega)
    have hnx := ih (s + 1) (by omega)
    have en : odX a v p (s + 1) = odX a v p s + (if decide (v ≤ bct s) = true then odw a p (bct s) else 0) := rfl
    rw [en] at hnx
    refine s_X8_odds_52 ?_
    simp (disch := omega) only [B_X8_odds_52, wi_iload, wi_iconst, wi_iload_n, wi_ishl, wi_icmp_ge, wi_invokestatic, no0, no1, nz1, nz2, nz3, nz4, nz5, nz7, nz8, Classical.not_not, bz0, bz1, wi_nil, ld_0, ld_s, isIv_I, isLv_L, isRv_R, true_and, and_true, lset_0, lset_1, lset_s, avw_I, avw_L, avw_R, clr_cons, clr_nil, kst_0, kst_1, kstL_0, kstL_1, addk_I, pA_0, pA_s, pD_0, pD_s, wid_nil, wid_cons, rcv_c, putv_I, putv_L, List.length_cons, List.length_nil, List.set_cons_zero, List.set_cons_succ, not_false_eq_true, Nat.reduceMod, Nat.reduceDiv, Nat.reduceEqDiff, Nat.reduceLT, Nat.reduceLeDiff, Nat.reduceAdd, Nat.reduceSub, reduceIte, Nat.lt_irrefl, Nat.zero_ne_one, Nat.one_ne_zero, Nat.zero_add, List.nil_append, List.cons_append, Option.toList_some, Option.toList_none, forall_const, false_implies, true_implies, false_or, or_false, true_or, or_true, i_le, i_lt, i_eq, i_eq0, i_lt0, i_0le, i_0lt, i_le0, i_in1, i_cl, nI_add, pk_mul, pk_sub, i_div, i_rem, i_sh1, i_bit, i_or, i_and, i_andn, nt_le, nf_le, nt_lt, nf_lt, nt_eq, nf_eq, not_true_eq_false, and_self, and_false, false_and, eq_self, Bool.toNat_true, Bool.toNat_false, i_bool, i_bool1, Bool.false_eq_true, Bool.true_eq_false, reduceCtorEq, i_neg1, i_neg2, i_neg3, i_neg4, i_neg5, i_neg6, i_neg7, i_neg8, i_neg9, i_nega, i_negb, i_negc, i_max2, i_min2]
    refine c_bitCount (by omega) ?_
    try simp (disch := omega) only [no0, no1, nz1, nz2, nz3, nz4, nz5, nz7, nz8, Classical.not_not, bz0, bz1, wi_nil, ld_0, ld_s, isIv_I, isLv_L, isRv_R, true_and, and_true, lset_0, lset_1, lset_s, avw_I, avw_L, avw_R, clr_cons, clr_nil, kst_0, kst_1, kstL_0, kstL_1, addk_I, pA_0, pA_s, pD_0, pD_s, wid_nil, wid_cons, rcv_c, putv_I, putv_L, List.length_cons, List.length_nil, List.set_cons_zero, List.set_cons_succ, not_false_eq_true, Nat.reduceMod, Nat.reduceDiv, Nat.reduceEqDiff, Nat.reduceLT, Nat.reduceLeDiff, Nat.reduceAdd, Nat.reduceSub, reduceIte, Nat.lt_irrefl, Nat.zero_ne_one, Nat.one_ne_zero, Nat.zero_add, List.nil_append, List.cons_append, Option.toList_some, Option.toList_none, forall_const, false_implies, true_implies, false_or, or_false, true_or, or_true, i_le, i_lt, i_eq, i_eq0, i_lt0, i_0le, i_0lt, i_le0, i_in1, i_cl, nI_add, pk_mul, pk_sub, i_div, i_rem, i_sh1, i_bit, i_or, i_and, i_andn, nt_le, nf_le, nt_lt, nf_lt, nt_eq, nf_eq, not_true_eq_false, and_self, and_false, false_and, eq_self, Bool.toNat_true, Bool.toNat_false, i_bool, i_bool1, Bool.false_eq_true, Bool.true_eq_false, reduceCtorEq, i_neg1, i_neg2, i_neg3, i_neg4, i_neg5, i_neg6, i_neg7, i_neg8, i_neg9, i_nega, i_negb, i_negc, i_max2, i_min2, wi_nil]
    repeat (
      first
      | refine s_X8_odds_0 ?_
      | refine s_X8_odds_19 ?_
      | refine s_X8_odds_21 ?_
      | refine s_X8_odds_34 ?_
      | refine s_X8_odds_42 ?_
      | refine s_X8_odds_45 ?_
      | refine s_X8_odds_65 ?_
      | refine s_X8_odds_84 ?_
      | refine s_X8_odds_92 ?_
      | refine s_X8_odds_96 ?_
      | refine s_X8_odds_102 ?_
      | refine s_X8_odds_114 ?_
      | refine s_X8_odds_117 ?_
      simp (disch := omega) only [B_X8_odds_0, wi_iload_n, wi_if_lt, wi_iconst, wi_icmp_gt, wi_bipush, wi_icmp_le, B_X8_odds_19, wi_ireturn, B_X8_odds_21, wi_aload_n, wi_getfield, fldv_7_3, fds_7_3, cnt_7, fldv_6_7, fds_6_7, cnt_6, wi_if_ne, B_X8_odds_34, wi_invokevirtual, B_X8_odds_42, wi_invokestatic, B_X8_odds_45, wi_istore_n, wi_lconst, wi_lstore, wi_istore, B_X8_odds_52, wi_iload, wi_ishl, wi_icmp_ge, B_X8_odds_65, wi_icmp_lt, wi_lload, wi_isub, B_X8_odds_84, B_X8_odds_92, wi_lmul, wi_ladd, B_X8_odds_96, wi_iinc, wi_goto, B_X8_odds_102, fldv_7_8, fds_7_8, B_X8_odds_114, cnt_4, B_X8_odds_117, no0, no1, nz1, nz2, nz3, nz4, nz5, nz7, nz8, Classical.not_not, bz0, bz1, wi_nil, ld_0, ld_s, isIv_I, isLv_L, isRv_R, true_and, and_true, lset_0, lset_1, lset_s, avw_I, avw_L, avw_R, clr_cons, clr_nil, kst_0, kst_1, kstL_0, kstL_1, addk_I, pA_0, pA_s, pD_0, pD_s, wid_nil, wid_cons, rcv_c, putv_I, putv_L, List.length_cons, List.length_nil, List.set_cons_zero, List.set_cons_succ, not_false_eq_true, Nat.reduceMod, Nat.reduceDiv, Nat.reduceEqDiff, Nat.reduceLT, Nat.reduceLeDiff, Nat.reduceAdd, Nat.reduceSub, reduceIte, Nat.lt_irrefl, Nat.zero_ne_one, Nat.one_ne_zero, Nat.zero_add, List.nil_append, List.cons_append, Option.toList_some, Option.toList_none, forall_const, false_implies, true_implies, false_or, or_false, true_or, or_true, i_le, i_lt, i_eq, i_eq0, i_lt0, i_0le, i_0lt, i_le0, i_in1, i_cl, nI_add, pk_mul, pk_sub, i_div, i_rem, i_sh1, i_bit, i_or, i_and, i_andn, nt_le, nf_le, nt_lt, nf_lt, nt_eq, nf_eq, not_true_eq_false, and_self, and_false, false_and, eq_self, Bool.toNat_true, Bool.toNat_false, i_bool, i_bool1, Bool.false_eq_true, Bool.true_eq_false, reduceCtorEq, i_neg1, i_neg2, i_neg3, i_neg4, i_neg5, i_neg6, i_neg7, i_neg8, i_neg9, i_nega, i_negb, i_negc, i_max2, i_min2])
    by_cases hvb : v ≤ bct s
    · rw [if_pos (decide_eq_true hvb)] at hnx
      try simp (disch := omega) only [no0, no1, nz1, nz2, nz3, nz4, nz5, nz7, nz8, Classical.not_not, bz0, bz1, wi_nil, ld_0, ld_s, isIv_I, isLv_L, isRv_R, true_and, and_true, lset_0, lset_1, lset_s, avw_I, avw_L, avw_R, clr_cons, clr_nil, kst_0, kst_1, kstL_0, kstL_1, addk_I, pA_0, pA_s, pD_0, pD_s, wid_nil, wid_cons, rcv_c, putv_I, putv_L, List.length_cons, List.length_nil, List.set_cons_zero, List.set_cons_succ, not_false_eq_true, Nat.reduceMod, Nat.reduceDiv, Nat.reduceEqDiff, Nat.reduceLT, Nat.reduceLeDiff, Nat.reduceAdd, Nat.reduceSub, reduceIte, Nat.lt_irrefl, Nat.zero_ne_one, Nat.one_ne_zero, Nat.zero_add, List.nil_append, List.cons_append, Option.toList_some, Option.toList_none, forall_const, false_implies, true_implies, false_or, or_false, true_or, or_true, i_le, i_lt, i_eq, i_eq0, i_lt0, i_0le, i_0lt, i_le0, i_in1, i_cl, nI_add, pk_mul, pk_sub, i_div, i_rem, i_sh1, i_bit, i_or, i_and, i_andn, nt_le, nf_le, nt_lt, nf_lt, nt_eq, nf_eq, not_true_eq_false, and_self, and_false, false_and, eq_self, Bool.toNat_true, Bool.toNat_false, i_bool, i_bool1, Bool.false_eq_true, Bool.true_eq_false, reduceCtorEq, i_neg1, i_neg2, i_neg3, i_neg4, i_neg5, i_neg6, i_neg7, i_neg8, i_neg9, i_nega, i_negb, i_negc, i_max2, i_min2, wi_nil]
      repeat (
        first
        | refine s_X8_odds_0 ?_
        | refine s_X8_odds_19 ?_
        | refine s_X8_odds_21 ?_
        | refine s_X8_odds_34 ?_
        | refine s_X8_odds_42 ?_
        | refine s_X8_odds_45 ?_
        | refine s_X8_odds_65 ?_
        | refine s_X8_odds_84 ?_
        | refine s_X8_odds_92 ?_
        | refine s_X8_odds_96 ?_
        | refine s_X8_odds_102 ?_
        | refine s_X8_odds_114 ?_
        | refine s_X8_odds_117 ?_
        simp (disch := omega) only [B_X8_odds_0, wi_iload_n, wi_if_lt, wi_iconst, wi_icmp_gt, wi_bipush, wi_icmp_le, B_X8_odds_19, wi_ireturn, B_X8_odds_21, wi_aload_n, wi_getfield, fldv_7_3, fds_7_3, cnt_7, fldv_6_7, fds_6_7, cnt_6, wi_if_ne, B_X8_odds_34, wi_invokevirtual, B_X8_odds_42, wi_invokestatic, B_X8_odds_45, wi_istore_n, wi_lconst, wi_lstore, wi_istore, B_X8_odds_52, wi_iload, wi_ishl, wi_icmp_ge, B_X8_odds_65, wi_icmp_lt, wi_lload, wi_isub, B_X8_odds_84, B_X8_odds_92, wi_lmul, wi_ladd, B_X8_odds_96, wi_iinc, wi_goto, B_X8_odds_102, fldv_7_8, fds_7_8, B_X8_odds_114, cnt_4, B_X8_odds_117, no0, no1, nz1, nz2, nz3, nz4, nz5, nz7, nz8, Classical.not_not, bz0, bz1, wi_nil, ld_0, ld_s, isIv_I, isLv_L, isRv_R, true_and, and_true, lset_0, lset_1, lset_s, avw_I, avw_L, avw_R, clr_cons, clr_nil, kst_0, kst_1, kstL_0, kstL_1, addk_I, pA_0, pA_s, pD_0, pD_s, wid_nil, wid_cons, rcv_c, putv_I, putv_L, List.length_cons, List.length_nil, List.set_cons_zero, List.set_cons_succ, not_false_eq_true, Nat.reduceMod, Nat.reduceDiv, Nat.reduceEqDiff, Nat.reduceLT, Nat.reduceLeDiff, Nat.reduceAdd, Nat.reduceSub, reduceIte, Nat.lt_irrefl, Nat.zero_ne_one, Nat.one_ne_zero, Nat.zero_add, List.nil_append, List.cons_append, Option.toList_some, Option.toList_none, forall_const, false_implies, true_implies, false_or, or_false, true_or, or_true, i_le, i_lt, i_eq, i_eq0, i_lt0, i_0le, i_0lt, i_le0, i_in1, i_cl, nI_add, pk_mul, pk_sub, i_div, i_rem, i_sh1, i_bit, i_or, i_and, i_andn, nt_le, nf_le, nt_lt, nf_lt, nt_eq, nf_eq, not_true_eq_false, and_self, and_false, false_and, eq_self, Bool.toNat_true, Bool.toNat_false, i_bool, i_bool1, Bool.false_eq_true, Bool.true_eq_false, reduceCtorEq, i_neg1, i_neg2, i_neg3, i_neg4, i_neg5, i_neg6, i_neg7, i_neg8, i_neg9, i_nega, i_negb, i_negc, i_max2, i_min2])
      refine c_power (by omega) (by omega) ?_
      try simp (disch := omega) only [no0, no1, nz1, nz2, nz3, nz4, nz5, nz7, nz8, Classical.not_not, bz0, bz1, wi_nil, ld_0, ld_s, isIv_I, isLv_L, isRv_R, true_and, and_true, lset_0, lset_1, lset_s, avw_I, avw_L, avw_R, clr_cons, clr_nil, kst_0, kst_1, kstL_0, kstL_1, addk_I, pA_0, pA_s, pD_0, pD_s, wid_nil, wid_cons, rcv_c, putv_I, putv_L, List.length_cons, List.length_nil, List.set_cons_zero, List.set_cons_succ, not_false_eq_true, Nat.reduceMod, Nat.reduceDiv, Nat.reduceEqDiff, Nat.reduceLT, Nat.reduceLeDiff, Nat.reduceAdd, Nat.reduceSub, reduceIte, Nat.lt_irrefl, Nat.zero_ne_one, Nat.one_ne_zero, Nat.zero_add, List.nil_append, List.cons_append, Option.toList_some, Option.toList_none, forall_const, false_implies, true_implies, false_or, or_false, true_or, or_true, i_le, i_lt, i_eq, i_eq0, i_lt0, i_0le, i_0lt, i_le0, i_in1, i_cl, nI_add, pk_mul, pk_sub, i_div, i_rem, i_sh1, i_bit, i_or, i_and, i_andn, nt_le, nf_le, nt_lt, nf_lt, nt_eq, nf_eq, not_true_eq_false, and_self, and_false, false_and, eq_self, Bool.toNat_true, Bool.toNat_false, i_bool, i_bool1, Bool.false_eq_true, Bool.true_eq_false, reduceCtorEq, i_neg1, i_neg2, i_neg3, i_neg4, i_neg5, i_neg6, i_neg7, i_neg8, i_neg9, i_nega, i_negb, i_negc, i_max2, i_min2, wi_nil]
      repeat (
        first
        | refine s_X8_odds_0 ?_
        | refine s_X8_odds_19 ?_
        | refine s_X8_odds_21 ?_
        | refine s_X8_odds_34 ?_
        | refine s_X8_odds_42 ?_
        | refine s_X8_odds_45 ?_
        | refine s_X8_odds_65 ?_
        | refine s_X8_odds_84 ?_
        | refine s_X8_odds_92 ?_
        | refine s_X8_odds_96 ?_
        | refine s_X8_odds_102 ?_
        | refine s_X8_odds_114 ?_
        | refine s_X8_odds_117 ?_
        simp (disch := omega) only [B_X8_odds_0, wi_iload_n, wi_if_lt, wi_iconst, wi_icmp_gt, wi_bipush, wi_icmp_le, B_X8_odds_19, wi_ireturn, B_X8_odds_21, wi_aload_n, wi_getfield, fldv_7_3, fds_7_3, cnt_7, fldv_6_7, fds_6_7, cnt_6, wi_if_ne, B_X8_odds_34, wi_invokevirtual, B_X8_odds_42, wi_invokestatic, B_X8_odds_45, wi_istore_n, wi_lconst, wi_lstore, wi_istore, B_X8_odds_52, wi_iload, wi_ishl, wi_icmp_ge, B_X8_odds_65, wi_icmp_lt, wi_lload, wi_isub, B_X8_odds_84, B_X8_odds_92, wi_lmul, wi_ladd, B_X8_odds_96, wi_iinc, wi_goto, B_X8_odds_102, fldv_7_8, fds_7_8, B_X8_odds_114, cnt_4, B_X8_odds_117, no0, no1, nz1, nz2, nz3, nz4, nz5, nz7, nz8, Classical.not_not, bz0, bz1, wi_nil, ld_0, ld_s, isIv_I, isLv_L, isRv_R, true_and, and_true, lset_0, lset_1, lset_s, avw_I, avw_L, avw_R, clr_cons, clr_nil, kst_0, kst_1, kstL_0, kstL_1, addk_I, pA_0, pA_s, pD_0, pD_s, wid_nil, wid_cons, rcv_c, putv_I, putv_L, List.length_cons, List.length_nil, List.set_cons_zero, List.set_cons_succ, not_false_eq_true, Nat.reduceMod, Nat.reduceDiv, Nat.reduceEqDiff, Nat.reduceLT, Nat.reduceLeDiff, Nat.reduceAdd, Nat.reduceSub, reduceIte, Nat.lt_irrefl, Nat.zero_ne_one, Nat.one_ne_zero, Nat.zero_add, List.nil_append, List.cons_append, Option.toList_some, Option.toList_none, forall_const, false_implies, true_implies, false_or, or_false, true_or, or_true, i_le, i_lt, i_eq, i_eq0, i_lt0, i_0le, i_0lt, i_le0, i_in1, i_cl, nI_add, pk_mul, pk_sub, i_div, i_rem, i_sh1, i_bit, i_or, i_and, i_andn, nt_le, nf_le, nt_lt, nf_lt, nt_eq, nf_eq, not_true_eq_false, and_self, and_false, false_and, eq_self, Bool.toNat_true, Bool.toNat_false, i_bool, i_bool1, Bool.false_eq_true, Bool.true_eq_false, reduceCtorEq, i_neg1, i_neg2, i_neg3, i_neg4, i_neg5, i_neg6, i_neg7, i_neg8, i_neg9, i_nega, i_negb, i_negc, i_max2, i_min2])
      refine c_power (by omega) (by omega) ?_
      try simp (disch := omega) only [no0, no1, nz1, nz2, nz3, nz4, nz5, nz7, nz8, Classical.not_not, bz0, bz1, wi_nil, ld_0, ld_s, isIv_I, isLv_L, isRv_R, true_and, and_true, lset_0, lset_1, lset_s, avw_I, avw_L, avw_R, clr_cons, clr_nil, kst_0, kst_1, kstL_0, kstL_1, addk_I, pA_0, pA_s, pD_0, pD_s, wid_nil, wid_cons, rcv_c, putv_I, putv_L, List.length_cons, List.length_nil, List.set_cons_zero, List.set_cons_succ, not_false_eq_true, Nat.reduceMod, Nat.reduceDiv, Nat.reduceEqDiff, Nat.reduceLT, Nat.reduceLeDiff, Nat.reduceAdd, Nat.reduceSub, reduceIte, Nat.lt_irrefl, Nat.zero_ne_one, Nat.one_ne_zero, Nat.zero_add, List.nil_append, List.cons_append, Option.toList_some, Option.toList_none, forall_const, false_implies, true_implies, false_or, or_false, true_or, or_true, i_le, i_lt, i_eq, i_eq0, i_lt0, i_0le, i_0lt, i_le0, i_in1, i_cl, nI_add, pk_mul, pk_sub, i_div, i_rem, i_sh1, i_bit, i_or, i_and, i_andn, nt_le, nf_le, nt_lt, nf_lt, nt_eq, nf_eq, not_true_eq_false, and_self, and_false, false_and, eq_self, Bool.toNat_true, Bool.toNat_false, i_bool, i_bool1, Bool.false_eq_true, Bool.true_eq_false, reduceCtorEq, i_neg1, i_neg2, i_neg3, i_neg4, i_neg5, i_neg6, i_neg7, i_neg8, i_neg9, i_nega, i_negb, i_negc, i_max2, i_min2, lN_mul, lN_add, wi_nil]
      repeat (
        first
        | refine s_X8_odds_0 ?_
        | refine s_X8_odds_19 ?_
        | refine s_X8_odds_21 ?_
        | refine s_X8_odds_34 ?_
        | refine s_X8_odds_42 ?_
        | refine s_X8_odds_45 ?_
        | refine s_X8_odds_65 ?_
        | refine s_X8_odds_84 ?_
        | refine s_X8_odds_92 ?_
        | refine s_X8_odds_96 ?_
        | refine s_X8_odds_102 ?_
        | refine s_X8_odds_114 ?_
        | refine s_X8_odds_117 ?_
        simp (disch := omega) only [B_X8_odds_0, wi_iload_n, wi_if_lt, wi_iconst, wi_icmp_gt, wi_bipush, wi_icmp_le, B_X8_odds_19, wi_ireturn, B_X8_odds_21, wi_aload_n, wi_getfield, fldv_7_3, fds_7_3, cnt_7, fldv_6_7, fds_6_7, cnt_6, wi_if_ne, B_X8_odds_34, wi_invokevirtual, B_X8_odds_42, wi_invokestatic, B_X8_odds_45, wi_istore_n, wi_lconst, wi_lstore, wi_istore, B_X8_odds_52, wi_iload, wi_ishl, wi_icmp_ge, B_X8_odds_65, wi_icmp_lt, wi_lload, wi_isub, B_X8_odds_84, B_X8_odds_92, wi_lmul, wi_ladd, B_X8_odds_96, wi_iinc, wi_goto, B_X8_odds_102, fldv_7_8, fds_7_8, B_X8_odds_114, cnt_4, B_X8_odds_117, no0, no1, nz1, nz2, nz3, nz4, nz5, nz7, nz8, Classical.not_not, bz0, bz1, wi_nil, ld_0, ld_s, isIv_I, isLv_L, isRv_R, true_and, and_true, lset_0, lset_1, lset_s, avw_I, avw_L, avw_R, clr_cons, clr_nil, kst_0, kst_1, kstL_0, kstL_1, addk_I, pA_0, pA_s, pD_0, pD_s, wid_nil, wid_cons, rcv_c, putv_I, putv_L, List.length_cons, List.length_nil, List.set_cons_zero, List.set_cons_succ, not_false_eq_true, Nat.reduceMod, Nat.reduceDiv, Nat.reduceEqDiff, Nat.reduceLT, Nat.reduceLeDiff, Nat.reduceAdd, Nat.reduceSub, reduceIte, Nat.lt_irrefl, Nat.zero_ne_one, Nat.one_ne_zero, Nat.zero_add, List.nil_append, List.cons_append, Option.toList_some, Option.toList_none, forall_const, false_implies, true_implies, false_or, or_false, true_or, or_true, i_le, i_lt, i_eq, i_eq0, i_lt0, i_0le, i_0lt, i_le0, i_in1, i_cl, nI_add, pk_mul, pk_sub, i_div, i_rem, i_sh1, i_bit, i_or, i_and, i_andn, nt_le, nf_le, nt_lt, nf_lt, nt_eq, nf_eq, not_true_eq_false, and_self, and_false, false_and, eq_self, Bool.toNat_true, Bool.toNat_false, i_bool, i_bool1, Bool.false_eq_true, Bool.true_eq_false, reduceCtorEq, i_neg1, i_neg2, i_neg3, i_neg4, i_neg5, i_neg6, i_neg7, i_neg8, i_neg9, i_nega, i_negb, i_negc, i_max2, i_min2, lN_mul, lN_add])
      exact hnx
    · rw [if_neg (fun z => hvb (of_decide_eq_true z)), Nat.add_zero] at hnx
      try simp (disch := omega) only [no0, no1, nz1, nz2, nz3, nz4, nz5, nz7, nz8, Classical.not_not, bz0, bz1, wi_nil, ld_0, ld_s, isIv_I, isLv_L, isRv_R, true_and, and_true, lset_0, lset_1, lset_s, avw_I, avw_L, avw_R, clr_cons, clr_nil, kst_0, kst_1, kstL_0, kstL_1, addk_I, pA_0, pA_s, pD_0, pD_s, wid_nil, wid_cons, rcv_c, putv_I, putv_L, List.length_cons, List.length_nil, List.set_cons_zero, List.set_cons_succ, not_false_eq_true, Nat.reduceMod, Nat.reduceDiv, Nat.reduceEqDiff, Nat.reduceLT, Nat.reduceLeDiff, Nat.reduceAdd, Nat.reduceSub, reduceIte, Nat.lt_irrefl, Nat.zero_ne_one, Nat.one_ne_zero, Nat.zero_add, List.nil_append, List.cons_append, Option.toList_some, Option.toList_none, forall_const, false_implies, true_implies, false_or, or_false, true_or, or_true, i_le, i_lt, i_eq, i_eq0, i_lt0, i_0le, i_0lt, i_le0, i_in1, i_cl, nI_add, pk_mul, pk_sub, i_div, i_rem, i_sh1, i_bit, i_or, i_and, i_andn, nt_le, nf_le, nt_lt, nf_lt, nt_eq, nf_eq, not_true_eq_false, and_self, and_false, false_and, eq_self, Bool.toNat_true, Bool.toNat_false, i_bool, i_bool1, Bool.false_eq_true, Bool.true_eq_false, reduceCtorEq, i_neg1, i_neg2, i_neg3, i_neg4, i_neg5, i_neg6, i_neg7, i_neg8, i_neg9, i_nega, i_negb, i_negc, i_max2, i_min2, wi_nil]
      repeat (
        first
        | refine s_X8_odds_0 ?_
        | refine s_X8_odds_19 ?_
        | refine s_X8_odds_21 ?_
        | refine s_X8_odds_34 ?_
        | refine s_X8_odds_42 ?_
        | refine s_X8_odds_45 ?_
        | refine s_X8_odds_65 ?_
        | refine s_X8_odds_84 ?_
        | refine s_X8_odds_92 ?_
        | refine s_X8_odds_96 ?_
        | refine s_X8_odds_102 ?_
        | refine s_X8_odds_114 ?_
        | refine s_X8_odds_117 ?_
        simp (disch := omega) only [B_X8_odds_0, wi_iload_n, wi_if_lt, wi_iconst, wi_icmp_gt, wi_bipush, wi_icmp_le, B_X8_odds_19, wi_ireturn, B_X8_odds_21, wi_aload_n, wi_getfield, fldv_7_3, fds_7_3, cnt_7, fldv_6_7, fds_6_7, cnt_6, wi_if_ne, B_X8_odds_34, wi_invokevirtual, B_X8_odds_42, wi_invokestatic, B_X8_odds_45, wi_istore_n, wi_lconst, wi_lstore, wi_istore, B_X8_odds_52, wi_iload, wi_ishl, wi_icmp_ge, B_X8_odds_65, wi_icmp_lt, wi_lload, wi_isub, B_X8_odds_84, B_X8_odds_92, wi_lmul, wi_ladd, B_X8_odds_96, wi_iinc, wi_goto, B_X8_odds_102, fldv_7_8, fds_7_8, B_X8_odds_114, cnt_4, B_X8_odds_117, no0, no1, nz1, nz2, nz3, nz4, nz5, nz7, nz8, Classical.not_not, bz0, bz1, wi_nil, ld_0, ld_s, isIv_I, isLv_L, isRv_R, true_and, and_true, lset_0, lset_1, lset_s, avw_I, avw_L, avw_R, clr_cons, clr_nil, kst_0, kst_1, kstL_0, kstL_1, addk_I, pA_0, pA_s, pD_0, pD_s, wid_nil, wid_cons, rcv_c, putv_I, putv_L, List.length_cons, List.length_nil, List.set_cons_zero, List.set_cons_succ, not_false_eq_true, Nat.reduceMod, Nat.reduceDiv, Nat.reduceEqDiff, Nat.reduceLT, Nat.reduceLeDiff, Nat.reduceAdd, Nat.reduceSub, reduceIte, Nat.lt_irrefl, Nat.zero_ne_one, Nat.one_ne_zero, Nat.zero_add, List.nil_append, List.cons_append, Option.toList_some, Option.toList_none, forall_const, false_implies, true_implies, false_or, or_false, true_or, or_true, i_le, i_lt, i_eq, i_eq0, i_lt0, i_0le, i_0lt, i_le0, i_in1, i_cl, nI_add, pk_mul, pk_sub, i_div, i_rem, i_sh1, i_bit, i_or, i_and, i_andn, nt_le, nf_le, nt_lt, nf_lt, nt_eq, nf_eq, not_true_eq_false, and_self, and_false, false_and, eq_self, Bool.toNat_true, Bool.toNat_false, i_bool, i_bool1, Bool.false_eq_true, Bool.true_eq_false, reduceCtorEq, i_neg1, i_neg2, i_neg3, i_neg4, i_neg5, i_neg6, i_neg7, i_neg8, i_neg9, i_nega, i_negb, i_negc, i_max2, i_min2])
      exact hnx
/-- the product over the first n deeds -/
def pwM (S p k : Nat) : Nat → Nat
  | 0 => 1
  | n + 1 => pwM S p k n * (if S.testBit n then (if k.testBit n then 12 - p else p) else 1)
theorem pwM_eq {S p k : Nat} (h : ∀ i, k.testBit i = true → S.testBit i = true) : ∀ n, csum (fun _ => 1) n k ≤ csum (fun _ => 1) n S ∧ pwM S p k n = (12 - p) ^ csum (fun _ => 1) n k * p ^ (csum (fun _ => 1) n S - csum (fun _ => 1) n k) := by
  intro n
  induction n with
  | zero => exact ⟨Nat.le_refl 0, rfl⟩
  | succ n ih =>
    obtain ⟨i1, i2⟩ := ih
    rw [pwM, csum_succ, csum_succ, i2]
    cases hS : S.testBit n
    · have hk : k.testBit n = false := by
        cases hk : k.testBit n
        · rfl
        · have := h n hk; rw [hS] at this; cases this
      rw [hk]
      simp only [Bool.false_eq_true, if_false, Nat.add_zero, Nat.mul_one]
      exact ⟨i1, trivial⟩
    · cases hk : k.testBit n
      · simp only [Bool.false_eq_true, if_false, if_true, Nat.add_zero]
        refine ⟨by omega, ?_⟩
        rw [show csum (fun _ => 1) n S + 1 - csum (fun _ => 1) n k = csum (fun _ => 1) n S - csum (fun _ => 1) n k + 1 by omega, Nat.pow_succ, Nat.mul_assoc]
      · simp only [if_true]
        refine ⟨by omega, ?_⟩
        rw [show csum (fun _ => 1) n S + 1 - (csum (fun _ => 1) n k + 1) = csum (fun _ => 1) n S - csum (fun _ => 1) n k by omega, Nat.pow_succ, Nat.mul_assoc, Nat.mul_assoc, Nat.mul_comm (p ^ _)]
theorem pwM_le {S p k : Nat} (hp : p ≤ 12) : ∀ n, pwM S p k n ≤ 12 ^ n := by
  intro n
  induction n with
  | zero => exact Nat.le_refl 1
  | succ n ih =>
    rw [pwM, Nat.pow_succ]
    refine Nat.mul_le_mul ih ?_
    split
    · split <;> omega
    · omega
theorem l_mwhole {v p s : Nat} (hs : s < 32) (q : wpX (d + 9) mX9_odds 79 [aR 8 0, aI (nI v), aI (nI p), aU, aI (nI s), aL (lN (12 ^ bct s)), aU, aL (lN 0), aU, aU, aU, aU, aU] [] S P) : ∀ (m i : Nat), i + m = bct s → wpX (d + 9) mX9_odds 55 [aR 8 0, aI (nI v), aI (nI p), aU, aI (nI s), aL (lN (12 ^ i)), aU, aL (lN 0), aU, aI (nI i), aU, aU, aU] [] S P := by
  have hb := bct5 hs
  intro m
  induction m with
  | zero =>
    intro i hi
    have e : i = bct s := by omega
    subst e
    refine s_X9_odds_55 ?_
    simp (disch := omega) only [B_X9_odds_55, wi_iload, wi_invokestatic, no0, no1, nz1, nz2, nz3, nz4, nz5, nz7, nz8, Classical.not_not, bz0, bz1, wi_nil, ld_0, ld_s, isIv_I, isLv_L, isRv_R, true_and, and_true, lset_0, lset_1, lset_s, avw_I, avw_L, avw_R, clr_cons, clr_nil, kst_0, kst_1, kstL_0, kstL_1, addk_I, pA_0, pA_s, pD_0, pD_s, wid_nil, wid_cons, rcv_c, putv_I, putv_L, List.length_cons, List.length_nil, List.set_cons_zero, List.set_cons_succ, not_false_eq_true, Nat.reduceMod, Nat.reduceDiv, Nat.reduceEqDiff, Nat.reduceLT, Nat.reduceLeDiff, Nat.reduceAdd, Nat.reduceSub, reduceIte, Nat.lt_irrefl, Nat.zero_ne_one, Nat.one_ne_zero, Nat.zero_add, List.nil_append, List.cons_append, Option.toList_some, Option.toList_none, forall_const, false_implies, true_implies, false_or, or_false, true_or, or_true, i_le, i_lt, i_eq, i_eq0, i_lt0, i_0le, i_0lt, i_le0, i_in1, i_cl, nI_add, pk_mul, pk_sub, i_div, i_rem, i_sh1, i_bit, i_or, i_and, i_andn, nt_le, nf_le, nt_lt, nf_lt, nt_eq, nf_eq, not_true_eq_false, and_self, and_false, false_and, eq_self, Bool.toNat_true, Bool.toNat_false, i_bool, i_bool1, Bool.false_eq_true, Bool.true_eq_false, reduceCtorEq, i_neg1, i_neg2, i_neg3, i_neg4, i_neg5, i_neg6, i_neg7, i_neg8, i_neg9, i_nega, i_negb, i_negc, i_max2, i_min2]
    refine c_bits (by omega) ?_
    try simp (disch := omega) only [no0, no1, nz1, nz2, nz3, nz4, nz5, nz7, nz8, Classical.not_not, bz0, bz1, wi_nil, ld_0, ld_s, isIv_I, isLv_L, isRv_R, true_and, and_true, lset_0, lset_1, lset_s, avw_I, avw_L, avw_R, clr_cons, clr_nil, kst_0, kst_1, kstL_0, kstL_1, addk_I, pA_0, pA_s, pD_0, pD_s, wid_nil, wid_cons, rcv_c, putv_I, putv_L, List.length_cons, List.length_nil, List.set_cons_zero, List.set_cons_succ, not_false_eq_true, Nat.reduceMod, Nat.reduceDiv, Nat.reduceEqDiff, Nat.reduceLT, Nat.reduceLeDiff, Nat.reduceAdd, Nat.reduceSub, reduceIte, Nat.lt_irrefl, Nat.zero_ne_one, Nat.one_ne_zero, Nat.zero_add, List.nil_append, List.cons_append, Option.toList_some, Option.toList_none, forall_const, false_implies, true_implies, false_or, or_false, true_or, or_true, i_le, i_lt, i_eq, i_eq0, i_lt0, i_0le, i_0lt, i_le0, i_in1, i_cl, nI_add, pk_mul, pk_sub, i_div, i_rem, i_sh1, i_bit, i_or, i_and, i_andn, nt_le, nf_le, nt_lt, nf_lt, nt_eq, nf_eq, not_true_eq_false, and_self, and_false, false_and, eq_self, Bool.toNat_true, Bool.toNat_false, i_bool, i_bool1, Bool.false_eq_true, Bool.true_eq_false, reduceCtorEq, i_neg1, i_neg2, i_neg3, i_neg4, i_neg5, i_neg6, i_neg7, i_neg8, i_neg9, i_nega, i_negb, i_negc, i_max2, i_min2, wi_nil]
    repeat (
      first
      | refine s_X9_odds_0 ?_
      | refine s_X9_odds_7 ?_
      | refine s_X9_odds_17 ?_
      | refine s_X9_odds_24 ?_
      | refine s_X9_odds_25 ?_
      | refine s_X9_odds_28 ?_
      | refine s_X9_odds_35 ?_
      | refine s_X9_odds_44 ?_
      | refine s_X9_odds_62 ?_
      | refine s_X9_odds_104 ?_
      | refine s_X9_odds_132 ?_
      | refine s_X9_odds_139 ?_
      | refine s_X9_odds_146 ?_
      | refine s_X9_odds_157 ?_
      | refine s_X9_odds_159 ?_
      | refine s_X9_odds_168 ?_
      | refine s_X9_odds_175 ?_
      | refine s_X9_odds_181 ?_
      | refine s_X9_odds_189 ?_
      simp (disch := omega) only [B_X9_odds_0, wi_aload_n, wi_iload_n, wi_iconst, wi_invokestatic, B_X9_odds_7, wi_if_eq, wi_bipush, B_X9_odds_17, wi_goto, B_X9_odds_24, B_X9_odds_25, wi_invokevirtual, cnt_8, B_X9_odds_28, wi_istore_n, wi_if_ge, wi_ireturn, B_X9_odds_35, wi_getfield, fldv_8_20, fds_8_20, B_X9_odds_44, wi_istore, wi_lconst, wi_lstore, B_X9_odds_55, wi_iload, B_X9_odds_62, wi_icmp_ge, wi_lload, wi_ldc2_w, wi_lmul, wi_iinc, B_X9_odds_79, B_X9_odds_82, wi_icmp_gt, wi_ixor, wi_iand, wi_if_ne, B_X9_odds_104, wi_icmp_lt, B_X9_odds_114, fldv_8_10, fds_8_10, B_X9_odds_132, B_X9_odds_139, B_X9_odds_146, wi_isub, wi_i2l, B_X9_odds_157, B_X9_odds_159, B_X9_odds_168, wi_ladd, B_X9_odds_175, B_X9_odds_181, B_X9_odds_189, no0, no1, nz1, nz2, nz3, nz4, nz5, nz7, nz8, Classical.not_not, bz0, bz1, wi_nil, ld_0, ld_s, isIv_I, isLv_L, isRv_R, true_and, and_true, lset_0, lset_1, lset_s, avw_I, avw_L, avw_R, clr_cons, clr_nil, kst_0, kst_1, kstL_0, kstL_1, addk_I, pA_0, pA_s, pD_0, pD_s, wid_nil, wid_cons, rcv_c, putv_I, putv_L, List.length_cons, List.length_nil, List.set_cons_zero, List.set_cons_succ, not_false_eq_true, Nat.reduceMod, Nat.reduceDiv, Nat.reduceEqDiff, Nat.reduceLT, Nat.reduceLeDiff, Nat.reduceAdd, Nat.reduceSub, reduceIte, Nat.lt_irrefl, Nat.zero_ne_one, Nat.one_ne_zero, Nat.zero_add, List.nil_append, List.cons_append, Option.toList_some, Option.toList_none, forall_const, false_implies, true_implies, false_or, or_false, true_or, or_true, i_le, i_lt, i_eq, i_eq0, i_lt0, i_0le, i_0lt, i_le0, i_in1, i_cl, nI_add, pk_mul, pk_sub, i_div, i_rem, i_sh1, i_bit, i_or, i_and, i_andn, nt_le, nf_le, nt_lt, nf_lt, nt_eq, nf_eq, not_true_eq_false, and_self, and_false, false_and, eq_self, Bool.toNat_true, Bool.toNat_false, i_bool, i_bool1, Bool.false_eq_true, Bool.true_eq_false, reduceCtorEq, i_neg1, i_neg2, i_neg3, i_neg4, i_neg5, i_neg6, i_neg7, i_neg8, i_neg9, i_nega, i_negb, i_negc, i_max2, i_min2])
    exact q
  | succ m ih =>
    intro i hi
    have hnx := ih (i + 1) (by omega)
    rw [Nat.pow_succ] at hnx
    refine s_X9_odds_55 ?_
    simp (disch := omega) only [B_X9_odds_55, wi_iload, wi_invokestatic, no0, no1, nz1, nz2, nz3, nz4, nz5, nz7, nz8, Classical.not_not, bz0, bz1, wi_nil, ld_0, ld_s, isIv_I, isLv_L, isRv_R, true_and, and_true, lset_0, lset_1, lset_s, avw_I, avw_L, avw_R, clr_cons, clr_nil, kst_0, kst_1, kstL_0, kstL_1, addk_I, pA_0, pA_s, pD_0, pD_s, wid_nil, wid_cons, rcv_c, putv_I, putv_L, List.length_cons, List.length_nil, List.set_cons_zero, List.set_cons_succ, not_false_eq_true, Nat.reduceMod, Nat.reduceDiv, Nat.reduceEqDiff, Nat.reduceLT, Nat.reduceLeDiff, Nat.reduceAdd, Nat.reduceSub, reduceIte, Nat.lt_irrefl, Nat.zero_ne_one, Nat.one_ne_zero, Nat.zero_add, List.nil_append, List.cons_append, Option.toList_some, Option.toList_none, forall_const, false_implies, true_implies, false_or, or_false, true_or, or_true, i_le, i_lt, i_eq, i_eq0, i_lt0, i_0le, i_0lt, i_le0, i_in1, i_cl, nI_add, pk_mul, pk_sub, i_div, i_rem, i_sh1, i_bit, i_or, i_and, i_andn, nt_le, nf_le, nt_lt, nf_lt, nt_eq, nf_eq, not_true_eq_false, and_self, and_false, false_and, eq_self, Bool.toNat_true, Bool.toNat_false, i_bool, i_bool1, Bool.false_eq_true, Bool.true_eq_false, reduceCtorEq, i_neg1, i_neg2, i_neg3, i_neg4, i_neg5, i_neg6, i_neg7, i_neg8, i_neg9, i_nega, i_negb, i_negc, i_max2, i_min2]
    refine c_bits (by omega) ?_
    try simp (disch := omega) only [no0, no1, nz1, nz2, nz3, nz4, nz5, nz7, nz8, Classical.not_not, bz0, bz1, wi_nil, ld_0, ld_s, isIv_I, isLv_L, isRv_R, true_and, and_true, lset_0, lset_1, lset_s, avw_I, avw_L, avw_R, clr_cons, clr_nil, kst_0, kst_1, kstL_0, kstL_1, addk_I, pA_0, pA_s, pD_0, pD_s, wid_nil, wid_cons, rcv_c, putv_I, putv_L, List.length_cons, List.length_nil, List.set_cons_zero, List.set_cons_succ, not_false_eq_true, Nat.reduceMod, Nat.reduceDiv, Nat.reduceEqDiff, Nat.reduceLT, Nat.reduceLeDiff, Nat.reduceAdd, Nat.reduceSub, reduceIte, Nat.lt_irrefl, Nat.zero_ne_one, Nat.one_ne_zero, Nat.zero_add, List.nil_append, List.cons_append, Option.toList_some, Option.toList_none, forall_const, false_implies, true_implies, false_or, or_false, true_or, or_true, i_le, i_lt, i_eq, i_eq0, i_lt0, i_0le, i_0lt, i_le0, i_in1, i_cl, nI_add, pk_mul, pk_sub, i_div, i_rem, i_sh1, i_bit, i_or, i_and, i_andn, nt_le, nf_le, nt_lt, nf_lt, nt_eq, nf_eq, not_true_eq_false, and_self, and_false, false_and, eq_self, Bool.toNat_true, Bool.toNat_false, i_bool, i_bool1, Bool.false_eq_true, Bool.true_eq_false, reduceCtorEq, i_neg1, i_neg2, i_neg3, i_neg4, i_neg5, i_neg6, i_neg7, i_neg8, i_neg9, i_nega, i_negb, i_negc, i_max2, i_min2, lN_mul, wi_nil]
    repeat (
      first
      | refine s_X9_odds_0 ?_
      | refine s_X9_odds_7 ?_
      | refine s_X9_odds_17 ?_
      | refine s_X9_odds_24 ?_
      | refine s_X9_odds_25 ?_
      | refine s_X9_odds_28 ?_
      | refine s_X9_odds_35 ?_
      | refine s_X9_odds_44 ?_
      | refine s_X9_odds_62 ?_
      | refine s_X9_odds_79 ?_
      | refine s_X9_odds_104 ?_
      | refine s_X9_odds_132 ?_
      | refine s_X9_odds_139 ?_
      | refine s_X9_odds_146 ?_
      | refine s_X9_odds_157 ?_
      | refine s_X9_odds_159 ?_
      | refine s_X9_odds_168 ?_
      | refine s_X9_odds_175 ?_
      | refine s_X9_odds_181 ?_
      | refine s_X9_odds_189 ?_
      simp (disch := omega) only [B_X9_odds_0, wi_aload_n, wi_iload_n, wi_iconst, wi_invokestatic, B_X9_odds_7, wi_if_eq, wi_bipush, B_X9_odds_17, wi_goto, B_X9_odds_24, B_X9_odds_25, wi_invokevirtual, cnt_8, B_X9_odds_28, wi_istore_n, wi_if_ge, wi_ireturn, B_X9_odds_35, wi_getfield, fldv_8_20, fds_8_20, B_X9_odds_44, wi_istore, wi_lconst, wi_lstore, B_X9_odds_55, wi_iload, B_X9_odds_62, wi_icmp_ge, wi_lload, wi_ldc2_w, wi_lmul, wi_iinc, B_X9_odds_79, B_X9_odds_82, wi_icmp_gt, wi_ixor, wi_iand, wi_if_ne, B_X9_odds_104, wi_icmp_lt, B_X9_odds_114, fldv_8_10, fds_8_10, B_X9_odds_132, B_X9_odds_139, B_X9_odds_146, wi_isub, wi_i2l, B_X9_odds_157, B_X9_odds_159, B_X9_odds_168, wi_ladd, B_X9_odds_175, B_X9_odds_181, B_X9_odds_189, no0, no1, nz1, nz2, nz3, nz4, nz5, nz7, nz8, Classical.not_not, bz0, bz1, wi_nil, ld_0, ld_s, isIv_I, isLv_L, isRv_R, true_and, and_true, lset_0, lset_1, lset_s, avw_I, avw_L, avw_R, clr_cons, clr_nil, kst_0, kst_1, kstL_0, kstL_1, addk_I, pA_0, pA_s, pD_0, pD_s, wid_nil, wid_cons, rcv_c, putv_I, putv_L, List.length_cons, List.length_nil, List.set_cons_zero, List.set_cons_succ, not_false_eq_true, Nat.reduceMod, Nat.reduceDiv, Nat.reduceEqDiff, Nat.reduceLT, Nat.reduceLeDiff, Nat.reduceAdd, Nat.reduceSub, reduceIte, Nat.lt_irrefl, Nat.zero_ne_one, Nat.one_ne_zero, Nat.zero_add, List.nil_append, List.cons_append, Option.toList_some, Option.toList_none, forall_const, false_implies, true_implies, false_or, or_false, true_or, or_true, i_le, i_lt, i_eq, i_eq0, i_lt0, i_0le, i_0lt, i_le0, i_in1, i_cl, nI_add, pk_mul, pk_sub, i_div, i_rem, i_sh1, i_bit, i_or, i_and, i_andn, nt_le, nf_le, nt_lt, nf_lt, nt_eq, nf_eq, not_true_eq_false, and_self, and_false, false_and, eq_self, Bool.toNat_true, Bool.toNat_false, i_bool, i_bool1, Bool.false_eq_true, Bool.true_eq_false, reduceCtorEq, i_neg1, i_neg2, i_neg3, i_neg4, i_neg5, i_neg6, i_neg7, i_neg8, i_neg9, i_nega, i_negb, i_negc, i_max2, i_min2, lN_mul])
    exact hnx
theorem l_mpart {v p s k : Nat} {w t : Int64} (hp : p ≤ 12) (hs : s < 32) (hk : k < 32) (hm : YrM S 40 Y) (hn5 : Y 6 0 ≤ 5) (q : wpX (d + 9) mX9_odds 168 [aR 8 0, aI (nI v), aI (nI p), aU, aI (nI s), aL w, aU, aL t, aU, aI (nI k), aL (lN (pwM s p k (Y 6 0))), aU, aU] [] S P) : ∀ (m i : Nat), i + m = Y 6 0 → wpX (d + 9) mX9_odds 114 [aR 8 0, aI (nI v), aI (nI p), aU, aI (nI s), aL w, aU, aL t, aU, aI (nI k), aL (lN (pwM s p k i)), aU, aI (nI i)] [] S P := by
  intro m
  induction m with
  | zero =>
    intro i hi
    have e : i = Y 6 0 := by omega
    subst e
    refine s_X9_odds_114 ?_
    simp (disch := omega) only [B_X9_odds_114, wi_iload, wi_aload_n, wi_getfield, fldv_8_10, fds_8_10, cnt_8, wi_icmp_ge, wi_lload, wi_invokestatic, no0, no1, nz1, nz2, nz3, nz4, nz5, nz7, nz8, Classical.not_not, bz0, bz1, wi_nil, ld_0, ld_s, isIv_I, isLv_L, isRv_R, true_and, and_true, lset_0, lset_1, lset_s, avw_I, avw_L, avw_R, clr_cons, clr_nil, kst_0, kst_1, kstL_0, kstL_1, addk_I, pA_0, pA_s, pD_0, pD_s, wid_nil, wid_cons, rcv_c, putv_I, putv_L, List.length_cons, List.length_nil, List.set_cons_zero, List.set_cons_succ, not_false_eq_true, Nat.reduceMod, Nat.reduceDiv, Nat.reduceEqDiff, Nat.reduceLT, Nat.reduceLeDiff, Nat.reduceAdd, Nat.reduceSub, reduceIte, Nat.lt_irrefl, Nat.zero_ne_one, Nat.one_ne_zero, Nat.zero_add, List.nil_append, List.cons_append, Option.toList_some, Option.toList_none, forall_const, false_implies, true_implies, false_or, or_false, true_or, or_true, i_le, i_lt, i_eq, i_eq0, i_lt0, i_0le, i_0lt, i_le0, i_in1, i_cl, nI_add, pk_mul, pk_sub, i_div, i_rem, i_sh1, i_bit, i_or, i_and, i_andn, nt_le, nf_le, nt_lt, nf_lt, nt_eq, nf_eq, not_true_eq_false, and_self, and_false, false_and, eq_self, Bool.toNat_true, Bool.toNat_false, i_bool, i_bool1, Bool.false_eq_true, Bool.true_eq_false, reduceCtorEq, i_neg1, i_neg2, i_neg3, i_neg4, i_neg5, i_neg6, i_neg7, i_neg8, i_neg9, i_nega, i_negb, i_negc, i_max2, i_min2, (m_n hm)]
    exact q
  | succ m ih =>
    intro i hi
    have hnx := ih (i + 1) (by omega)
    rw [pwM] at hnx
    refine s_X9_odds_114 ?_
    simp (disch := omega) only [B_X9_odds_114, wi_iload, wi_aload_n, wi_getfield, fldv_8_10, fds_8_10, cnt_8, wi_icmp_ge, wi_lload, wi_invokestatic, no0, no1, nz1, nz2, nz3, nz4, nz5, nz7, nz8, Classical.not_not, bz0, bz1, wi_nil, ld_0, ld_s, isIv_I, isLv_L, isRv_R, true_and, and_true, lset_0, lset_1, lset_s, avw_I, avw_L, avw_R, clr_cons, clr_nil, kst_0, kst_1, kstL_0, kstL_1, addk_I, pA_0, pA_s, pD_0, pD_s, wid_nil, wid_cons, rcv_c, putv_I, putv_L, List.length_cons, List.length_nil, List.set_cons_zero, List.set_cons_succ, not_false_eq_true, Nat.reduceMod, Nat.reduceDiv, Nat.reduceEqDiff, Nat.reduceLT, Nat.reduceLeDiff, Nat.reduceAdd, Nat.reduceSub, reduceIte, Nat.lt_irrefl, Nat.zero_ne_one, Nat.one_ne_zero, Nat.zero_add, List.nil_append, List.cons_append, Option.toList_some, Option.toList_none, forall_const, false_implies, true_implies, false_or, or_false, true_or, or_true, i_le, i_lt, i_eq, i_eq0, i_lt0, i_0le, i_0lt, i_le0, i_in1, i_cl, nI_add, pk_mul, pk_sub, i_div, i_rem, i_sh1, i_bit, i_or, i_and, i_andn, nt_le, nf_le, nt_lt, nf_lt, nt_eq, nf_eq, not_true_eq_false, and_self, and_false, false_and, eq_self, Bool.toNat_true, Bool.toNat_false, i_bool, i_bool1, Bool.false_eq_true, Bool.true_eq_false, reduceCtorEq, i_neg1, i_neg2, i_neg3, i_neg4, i_neg5, i_neg6, i_neg7, i_neg8, i_neg9, i_nega, i_negb, i_negc, i_max2, i_min2, (m_n hm)]
    refine c_has (by omega) (by omega) ?_
    cases hb : s.testBit i
    · rw [hb, if_neg (by decide)] at hnx
      try simp (disch := omega) only [no0, no1, nz1, nz2, nz3, nz4, nz5, nz7, nz8, Classical.not_not, bz0, bz1, wi_nil, ld_0, ld_s, isIv_I, isLv_L, isRv_R, true_and, and_true, lset_0, lset_1, lset_s, avw_I, avw_L, avw_R, clr_cons, clr_nil, kst_0, kst_1, kstL_0, kstL_1, addk_I, pA_0, pA_s, pD_0, pD_s, wid_nil, wid_cons, rcv_c, putv_I, putv_L, List.length_cons, List.length_nil, List.set_cons_zero, List.set_cons_succ, not_false_eq_true, Nat.reduceMod, Nat.reduceDiv, Nat.reduceEqDiff, Nat.reduceLT, Nat.reduceLeDiff, Nat.reduceAdd, Nat.reduceSub, reduceIte, Nat.lt_irrefl, Nat.zero_ne_one, Nat.one_ne_zero, Nat.zero_add, List.nil_append, List.cons_append, Option.toList_some, Option.toList_none, forall_const, false_implies, true_implies, false_or, or_false, true_or, or_true, i_le, i_lt, i_eq, i_eq0, i_lt0, i_0le, i_0lt, i_le0, i_in1, i_cl, nI_add, pk_mul, pk_sub, i_div, i_rem, i_sh1, i_bit, i_or, i_and, i_andn, nt_le, nf_le, nt_lt, nf_lt, nt_eq, nf_eq, not_true_eq_false, and_self, and_false, false_and, eq_self, Bool.toNat_true, Bool.toNat_false, i_bool, i_bool1, Bool.false_eq_true, Bool.true_eq_false, reduceCtorEq, i_neg1, i_neg2, i_neg3, i_neg4, i_neg5, i_neg6, i_neg7, i_neg8, i_neg9, i_nega, i_negb, i_negc, i_max2, i_min2, hb, lN_mul, wi_nil]
      repeat (
        first
        | refine s_X9_odds_0 ?_
        | refine s_X9_odds_7 ?_
        | refine s_X9_odds_17 ?_
        | refine s_X9_odds_24 ?_
        | refine s_X9_odds_25 ?_
        | refine s_X9_odds_28 ?_
        | refine s_X9_odds_35 ?_
        | refine s_X9_odds_44 ?_
        | refine s_X9_odds_62 ?_
        | refine s_X9_odds_79 ?_
        | refine s_X9_odds_104 ?_
        | refine s_X9_odds_132 ?_
        | refine s_X9_odds_139 ?_
        | refine s_X9_odds_146 ?_
        | refine s_X9_odds_157 ?_
        | refine s_X9_odds_159 ?_
        | refine s_X9_odds_168 ?_
        | refine s_X9_odds_175 ?_
        | refine s_X9_odds_181 ?_
        | refine s_X9_odds_189 ?_
        simp (disch := omega) only [B_X9_odds_0, wi_aload_n, wi_iload_n, wi_iconst, wi_invokestatic, B_X9_odds_7, wi_if_eq, wi_bipush, B_X9_odds_17, wi_goto, B_X9_odds_24, B_X9_odds_25, wi_invokevirtual, cnt_8, B_X9_odds_28, wi_istore_n, wi_if_ge, wi_ireturn, B_X9_odds_35, wi_getfield, fldv_8_20, fds_8_20, B_X9_odds_44, wi_istore, wi_lconst, wi_lstore, B_X9_odds_55, wi_iload, B_X9_odds_62, wi_icmp_ge, wi_lload, wi_ldc2_w, wi_lmul, wi_iinc, B_X9_odds_79, B_X9_odds_82, wi_icmp_gt, wi_ixor, wi_iand, wi_if_ne, B_X9_odds_104, wi_icmp_lt, B_X9_odds_114, fldv_8_10, fds_8_10, B_X9_odds_132, B_X9_odds_139, B_X9_odds_146, wi_isub, wi_i2l, B_X9_odds_157, B_X9_odds_159, B_X9_odds_168, wi_ladd, B_X9_odds_175, B_X9_odds_181, B_X9_odds_189, no0, no1, nz1, nz2, nz3, nz4, nz5, nz7, nz8, Classical.not_not, bz0, bz1, wi_nil, ld_0, ld_s, isIv_I, isLv_L, isRv_R, true_and, and_true, lset_0, lset_1, lset_s, avw_I, avw_L, avw_R, clr_cons, clr_nil, kst_0, kst_1, kstL_0, kstL_1, addk_I, pA_0, pA_s, pD_0, pD_s, wid_nil, wid_cons, rcv_c, putv_I, putv_L, List.length_cons, List.length_nil, List.set_cons_zero, List.set_cons_succ, not_false_eq_true, Nat.reduceMod, Nat.reduceDiv, Nat.reduceEqDiff, Nat.reduceLT, Nat.reduceLeDiff, Nat.reduceAdd, Nat.reduceSub, reduceIte, Nat.lt_irrefl, Nat.zero_ne_one, Nat.one_ne_zero, Nat.zero_add, List.nil_append, List.cons_append, Option.toList_some, Option.toList_none, forall_const, false_implies, true_implies, false_or, or_false, true_or, or_true, i_le, i_lt, i_eq, i_eq0, i_lt0, i_0le, i_0lt, i_le0, i_in1, i_cl, nI_add, pk_mul, pk_sub, i_div, i_rem, i_sh1, i_bit, i_or, i_and, i_andn, nt_le, nf_le, nt_lt, nf_lt, nt_eq, nf_eq, not_true_eq_false, and_self, and_false, false_and, eq_self, Bool.toNat_true, Bool.toNat_false, i_bool, i_bool1, Bool.false_eq_true, Bool.true_eq_false, reduceCtorEq, i_neg1, i_neg2, i_neg3, i_neg4, i_neg5, i_neg6, i_neg7, i_neg8, i_neg9, i_nega, i_negb, i_negc, i_max2, i_min2, hb, lN_mul])
      exact hnx
    · rw [hb, if_pos rfl] at hnx
      try simp (disch := omega) only [no0, no1, nz1, nz2, nz3, nz4, nz5, nz7, nz8, Classical.not_not, bz0, bz1, wi_nil, ld_0, ld_s, isIv_I, isLv_L, isRv_R, true_and, and_true, lset_0, lset_1, lset_s, avw_I, avw_L, avw_R, clr_cons, clr_nil, kst_0, kst_1, kstL_0, kstL_1, addk_I, pA_0, pA_s, pD_0, pD_s, wid_nil, wid_cons, rcv_c, putv_I, putv_L, List.length_cons, List.length_nil, List.set_cons_zero, List.set_cons_succ, not_false_eq_true, Nat.reduceMod, Nat.reduceDiv, Nat.reduceEqDiff, Nat.reduceLT, Nat.reduceLeDiff, Nat.reduceAdd, Nat.reduceSub, reduceIte, Nat.lt_irrefl, Nat.zero_ne_one, Nat.one_ne_zero, Nat.zero_add, List.nil_append, List.cons_append, Option.toList_some, Option.toList_none, forall_const, false_implies, true_implies, false_or, or_false, true_or, or_true, i_le, i_lt, i_eq, i_eq0, i_lt0, i_0le, i_0lt, i_le0, i_in1, i_cl, nI_add, pk_mul, pk_sub, i_div, i_rem, i_sh1, i_bit, i_or, i_and, i_andn, nt_le, nf_le, nt_lt, nf_lt, nt_eq, nf_eq, not_true_eq_false, and_self, and_false, false_and, eq_self, Bool.toNat_true, Bool.toNat_false, i_bool, i_bool1, Bool.false_eq_true, Bool.true_eq_false, reduceCtorEq, i_neg1, i_neg2, i_neg3, i_neg4, i_neg5, i_neg6, i_neg7, i_neg8, i_neg9, i_nega, i_negb, i_negc, i_max2, i_min2, hb, wi_nil]
      repeat (
        first
        | refine s_X9_odds_0 ?_
        | refine s_X9_odds_7 ?_
        | refine s_X9_odds_17 ?_
        | refine s_X9_odds_24 ?_
        | refine s_X9_odds_25 ?_
        | refine s_X9_odds_28 ?_
        | refine s_X9_odds_35 ?_
        | refine s_X9_odds_44 ?_
        | refine s_X9_odds_62 ?_
        | refine s_X9_odds_79 ?_
        | refine s_X9_odds_104 ?_
        | refine s_X9_odds_132 ?_
        | refine s_X9_odds_139 ?_
        | refine s_X9_odds_146 ?_
        | refine s_X9_odds_157 ?_
        | refine s_X9_odds_159 ?_
        | refine s_X9_odds_168 ?_
        | refine s_X9_odds_175 ?_
        | refine s_X9_odds_181 ?_
        | refine s_X9_odds_189 ?_
        simp (disch := omega) only [B_X9_odds_0, wi_aload_n, wi_iload_n, wi_iconst, wi_invokestatic, B_X9_odds_7, wi_if_eq, wi_bipush, B_X9_odds_17, wi_goto, B_X9_odds_24, B_X9_odds_25, wi_invokevirtual, cnt_8, B_X9_odds_28, wi_istore_n, wi_if_ge, wi_ireturn, B_X9_odds_35, wi_getfield, fldv_8_20, fds_8_20, B_X9_odds_44, wi_istore, wi_lconst, wi_lstore, B_X9_odds_55, wi_iload, B_X9_odds_62, wi_icmp_ge, wi_lload, wi_ldc2_w, wi_lmul, wi_iinc, B_X9_odds_79, B_X9_odds_82, wi_icmp_gt, wi_ixor, wi_iand, wi_if_ne, B_X9_odds_104, wi_icmp_lt, B_X9_odds_114, fldv_8_10, fds_8_10, B_X9_odds_132, B_X9_odds_139, B_X9_odds_146, wi_isub, wi_i2l, B_X9_odds_157, B_X9_odds_159, B_X9_odds_168, wi_ladd, B_X9_odds_175, B_X9_odds_181, B_X9_odds_189, no0, no1, nz1, nz2, nz3, nz4, nz5, nz7, nz8, Classical.not_not, bz0, bz1, wi_nil, ld_0, ld_s, isIv_I, isLv_L, isRv_R, true_and, and_true, lset_0, lset_1, lset_s, avw_I, avw_L, avw_R, clr_cons, clr_nil, kst_0, kst_1, kstL_0, kstL_1, addk_I, pA_0, pA_s, pD_0, pD_s, wid_nil, wid_cons, rcv_c, putv_I, putv_L, List.length_cons, List.length_nil, List.set_cons_zero, List.set_cons_succ, not_false_eq_true, Nat.reduceMod, Nat.reduceDiv, Nat.reduceEqDiff, Nat.reduceLT, Nat.reduceLeDiff, Nat.reduceAdd, Nat.reduceSub, reduceIte, Nat.lt_irrefl, Nat.zero_ne_one, Nat.one_ne_zero, Nat.zero_add, List.nil_append, List.cons_append, Option.toList_some, Option.toList_none, forall_const, false_implies, true_implies, false_or, or_false, true_or, or_true, i_le, i_lt, i_eq, i_eq0, i_lt0, i_0le, i_0lt, i_le0, i_in1, i_cl, nI_add, pk_mul, pk_sub, i_div, i_rem, i_sh1, i_bit, i_or, i_and, i_andn, nt_le, nf_le, nt_lt, nf_lt, nt_eq, nf_eq, not_true_eq_false, and_self, and_false, false_and, eq_self, Bool.toNat_true, Bool.toNat_false, i_bool, i_bool1, Bool.false_eq_true, Bool.true_eq_false, reduceCtorEq, i_neg1, i_neg2, i_neg3, i_neg4, i_neg5, i_neg6, i_neg7, i_neg8, i_neg9, i_nega, i_negb, i_negc, i_max2, i_min2, hb])
      refine c_has (by omega) (by omega) ?_
      cases hkb : k.testBit i
      · rw [hkb, if_neg (by decide)] at hnx
        try simp (disch := omega) only [no0, no1, nz1, nz2, nz3, nz4, nz5, nz7, nz8, Classical.not_not, bz0, bz1, wi_nil, ld_0, ld_s, isIv_I, isLv_L, isRv_R, true_and, and_true, lset_0, lset_1, lset_s, avw_I, avw_L, avw_R, clr_cons, clr_nil, kst_0, kst_1, kstL_0, kstL_1, addk_I, pA_0, pA_s, pD_0, pD_s, wid_nil, wid_cons, rcv_c, putv_I, putv_L, List.length_cons, List.length_nil, List.set_cons_zero, List.set_cons_succ, not_false_eq_true, Nat.reduceMod, Nat.reduceDiv, Nat.reduceEqDiff, Nat.reduceLT, Nat.reduceLeDiff, Nat.reduceAdd, Nat.reduceSub, reduceIte, Nat.lt_irrefl, Nat.zero_ne_one, Nat.one_ne_zero, Nat.zero_add, List.nil_append, List.cons_append, Option.toList_some, Option.toList_none, forall_const, false_implies, true_implies, false_or, or_false, true_or, or_true, i_le, i_lt, i_eq, i_eq0, i_lt0, i_0le, i_0lt, i_le0, i_in1, i_cl, nI_add, pk_mul, pk_sub, i_div, i_rem, i_sh1, i_bit, i_or, i_and, i_andn, nt_le, nf_le, nt_lt, nf_lt, nt_eq, nf_eq, not_true_eq_false, and_self, and_false, false_and, eq_self, Bool.toNat_true, Bool.toNat_false, i_bool, i_bool1, Bool.false_eq_true, Bool.true_eq_false, reduceCtorEq, i_neg1, i_neg2, i_neg3, i_neg4, i_neg5, i_neg6, i_neg7, i_neg8, i_neg9, i_nega, i_negb, i_negc, i_max2, i_min2, hkb, nI_l, lN_mul, wi_nil]
        repeat (
          first
          | refine s_X9_odds_0 ?_
          | refine s_X9_odds_7 ?_
          | refine s_X9_odds_17 ?_
          | refine s_X9_odds_24 ?_
          | refine s_X9_odds_25 ?_
          | refine s_X9_odds_28 ?_
          | refine s_X9_odds_35 ?_
          | refine s_X9_odds_44 ?_
          | refine s_X9_odds_62 ?_
          | refine s_X9_odds_79 ?_
          | refine s_X9_odds_104 ?_
          | refine s_X9_odds_132 ?_
          | refine s_X9_odds_139 ?_
          | refine s_X9_odds_146 ?_
          | refine s_X9_odds_157 ?_
          | refine s_X9_odds_159 ?_
          | refine s_X9_odds_168 ?_
          | refine s_X9_odds_175 ?_
          | refine s_X9_odds_181 ?_
          | refine s_X9_odds_189 ?_
          simp (disch := omega) only [B_X9_odds_0, wi_aload_n, wi_iload_n, wi_iconst, wi_invokestatic, B_X9_odds_7, wi_if_eq, wi_bipush, B_X9_odds_17, wi_goto, B_X9_odds_24, B_X9_odds_25, wi_invokevirtual, cnt_8, B_X9_odds_28, wi_istore_n, wi_if_ge, wi_ireturn, B_X9_odds_35, wi_getfield, fldv_8_20, fds_8_20, B_X9_odds_44, wi_istore, wi_lconst, wi_lstore, B_X9_odds_55, wi_iload, B_X9_odds_62, wi_icmp_ge, wi_lload, wi_ldc2_w, wi_lmul, wi_iinc, B_X9_odds_79, B_X9_odds_82, wi_icmp_gt, wi_ixor, wi_iand, wi_if_ne, B_X9_odds_104, wi_icmp_lt, B_X9_odds_114, fldv_8_10, fds_8_10, B_X9_odds_132, B_X9_odds_139, B_X9_odds_146, wi_isub, wi_i2l, B_X9_odds_157, B_X9_odds_159, B_X9_odds_168, wi_ladd, B_X9_odds_175, B_X9_odds_181, B_X9_odds_189, no0, no1, nz1, nz2, nz3, nz4, nz5, nz7, nz8, Classical.not_not, bz0, bz1, wi_nil, ld_0, ld_s, isIv_I, isLv_L, isRv_R, true_and, and_true, lset_0, lset_1, lset_s, avw_I, avw_L, avw_R, clr_cons, clr_nil, kst_0, kst_1, kstL_0, kstL_1, addk_I, pA_0, pA_s, pD_0, pD_s, wid_nil, wid_cons, rcv_c, putv_I, putv_L, List.length_cons, List.length_nil, List.set_cons_zero, List.set_cons_succ, not_false_eq_true, Nat.reduceMod, Nat.reduceDiv, Nat.reduceEqDiff, Nat.reduceLT, Nat.reduceLeDiff, Nat.reduceAdd, Nat.reduceSub, reduceIte, Nat.lt_irrefl, Nat.zero_ne_one, Nat.one_ne_zero, Nat.zero_add, List.nil_append, List.cons_append, Option.toList_some, Option.toList_none, forall_const, false_implies, true_implies, false_or, or_false, true_or, or_true, i_le, i_lt, i_eq, i_eq0, i_lt0, i_0le, i_0lt, i_le0, i_in1, i_cl, nI_add, pk_mul, pk_sub, i_div, i_rem, i_sh1, i_bit, i_or, i_and, i_andn, nt_le, nf_le, nt_lt, nf_lt, nt_eq, nf_eq, not_true_eq_false, and_self, and_false, false_and, eq_self, Bool.toNat_true, Bool.toNat_false, i_bool, i_bool1, Bool.false_eq_true, Bool.true_eq_false, reduceCtorEq, i_neg1, i_neg2, i_neg3, i_neg4, i_neg5, i_neg6, i_neg7, i_neg8, i_neg9, i_nega, i_negb, i_negc, i_max2, i_min2, hkb, nI_l, lN_mul])
        exact hnx
      · rw [hkb, if_pos rfl] at hnx
        try simp (disch := omega) only [no0, no1, nz1, nz2, nz3, nz4, nz5, nz7, nz8, Classical.not_not, bz0, bz1, wi_nil, ld_0, ld_s, isIv_I, isLv_L, isRv_R, true_and, and_true, lset_0, lset_1, lset_s, avw_I, avw_L, avw_R, clr_cons, clr_nil, kst_0, kst_1, kstL_0, kstL_1, addk_I, pA_0, pA_s, pD_0, pD_s, wid_nil, wid_cons, rcv_c, putv_I, putv_L, List.length_cons, List.length_nil, List.set_cons_zero, List.set_cons_succ, not_false_eq_true, Nat.reduceMod, Nat.reduceDiv, Nat.reduceEqDiff, Nat.reduceLT, Nat.reduceLeDiff, Nat.reduceAdd, Nat.reduceSub, reduceIte, Nat.lt_irrefl, Nat.zero_ne_one, Nat.one_ne_zero, Nat.zero_add, List.nil_append, List.cons_append, Option.toList_some, Option.toList_none, forall_const, false_implies, true_implies, false_or, or_false, true_or, or_true, i_le, i_lt, i_eq, i_eq0, i_lt0, i_0le, i_0lt, i_le0, i_in1, i_cl, nI_add, pk_mul, pk_sub, i_div, i_rem, i_sh1, i_bit, i_or, i_and, i_andn, nt_le, nf_le, nt_lt, nf_lt, nt_eq, nf_eq, not_true_eq_false, and_self, and_false, false_and, eq_self, Bool.toNat_true, Bool.toNat_false, i_bool, i_bool1, Bool.false_eq_true, Bool.true_eq_false, reduceCtorEq, i_neg1, i_neg2, i_neg3, i_neg4, i_neg5, i_neg6, i_neg7, i_neg8, i_neg9, i_nega, i_negb, i_negc, i_max2, i_min2, hkb, nI_l, lN_mul, wi_nil]
        repeat (
          first
          | refine s_X9_odds_0 ?_
          | refine s_X9_odds_7 ?_
          | refine s_X9_odds_17 ?_
          | refine s_X9_odds_24 ?_
          | refine s_X9_odds_25 ?_
          | refine s_X9_odds_28 ?_
          | refine s_X9_odds_35 ?_
          | refine s_X9_odds_44 ?_
          | refine s_X9_odds_62 ?_
          | refine s_X9_odds_79 ?_
          | refine s_X9_odds_104 ?_
          | refine s_X9_odds_132 ?_
          | refine s_X9_odds_139 ?_
          | refine s_X9_odds_146 ?_
          | refine s_X9_odds_157 ?_
          | refine s_X9_odds_159 ?_
          | refine s_X9_odds_168 ?_
          | refine s_X9_odds_175 ?_
          | refine s_X9_odds_181 ?_
          | refine s_X9_odds_189 ?_
          simp (disch := omega) only [B_X9_odds_0, wi_aload_n, wi_iload_n, wi_iconst, wi_invokestatic, B_X9_odds_7, wi_if_eq, wi_bipush, B_X9_odds_17, wi_goto, B_X9_odds_24, B_X9_odds_25, wi_invokevirtual, cnt_8, B_X9_odds_28, wi_istore_n, wi_if_ge, wi_ireturn, B_X9_odds_35, wi_getfield, fldv_8_20, fds_8_20, B_X9_odds_44, wi_istore, wi_lconst, wi_lstore, B_X9_odds_55, wi_iload, B_X9_odds_62, wi_icmp_ge, wi_lload, wi_ldc2_w, wi_lmul, wi_iinc, B_X9_odds_79, B_X9_odds_82, wi_icmp_gt, wi_ixor, wi_iand, wi_if_ne, B_X9_odds_104, wi_icmp_lt, B_X9_odds_114, fldv_8_10, fds_8_10, B_X9_odds_132, B_X9_odds_139, B_X9_odds_146, wi_isub, wi_i2l, B_X9_odds_157, B_X9_odds_159, B_X9_odds_168, wi_ladd, B_X9_odds_175, B_X9_odds_181, B_X9_odds_189, no0, no1, nz1, nz2, nz3, nz4, nz5, nz7, nz8, Classical.not_not, bz0, bz1, wi_nil, ld_0, ld_s, isIv_I, isLv_L, isRv_R, true_and, and_true, lset_0, lset_1, lset_s, avw_I, avw_L, avw_R, clr_cons, clr_nil, kst_0, kst_1, kstL_0, kstL_1, addk_I, pA_0, pA_s, pD_0, pD_s, wid_nil, wid_cons, rcv_c, putv_I, putv_L, List.length_cons, List.length_nil, List.set_cons_zero, List.set_cons_succ, not_false_eq_true, Nat.reduceMod, Nat.reduceDiv, Nat.reduceEqDiff, Nat.reduceLT, Nat.reduceLeDiff, Nat.reduceAdd, Nat.reduceSub, reduceIte, Nat.lt_irrefl, Nat.zero_ne_one, Nat.one_ne_zero, Nat.zero_add, List.nil_append, List.cons_append, Option.toList_some, Option.toList_none, forall_const, false_implies, true_implies, false_or, or_false, true_or, or_true, i_le, i_lt, i_eq, i_eq0, i_lt0, i_0le, i_0lt, i_le0, i_in1, i_cl, nI_add, pk_mul, pk_sub, i_div, i_rem, i_sh1, i_bit, i_or, i_and, i_andn, nt_le, nf_le, nt_lt, nf_lt, nt_eq, nf_eq, not_true_eq_false, and_self, and_false, false_and, eq_self, Bool.toNat_true, Bool.toNat_false, i_bool, i_bool1, Bool.false_eq_true, Bool.true_eq_false, reduceCtorEq, i_neg1, i_neg2, i_neg3, i_neg4, i_neg5, i_neg6, i_neg7, i_neg8, i_neg9, i_nega, i_negb, i_negc, i_max2, i_min2, hkb, nI_l, lN_mul])
        exact hnx
theorem l_modds {v p s : Nat} {w : Int64} (hp : p ≤ 12) (hv : v ≤ 5) (hs : s < 32) (hsn : ∀ i, s.testBit i = true → i < Y 6 0) (hm : YrM S 40 Y) (hn5 : Y 6 0 ≤ 5) (q : wpX (d + 9) mX9_odds 181 [aR 8 0, aU, aU, aU, aU, aL w, aU, aL (lN (odM s v p (s + 1))), aU, aU, aU, aU, aU] [] S P) : ∀ (m k : Nat), k + m = s + 1 → wpX (d + 9) mX9_odds 82 [aR 8 0, aI (nI v), aI (nI p), aU, aI (nI s), aL w, aU, aL (lN (odM s v p k)), aU, aI (nI k), aU, aU, aU] [] S P := by
  intro m
  induction m with
  | zero =>
    intro k hk
    have e : k = s + 1 := by omega
    subst e
    refine s_X9_odds_82 ?_
    simp (disch := omega) only [B_X9_odds_82, wi_iload, wi_icmp_gt, wi_iconst, wi_ixor, wi_iand, wi_if_ne, wi_invokestatic, no0, no1, nz1, nz2, nz3, nz4, nz5, nz7, nz8, Classical.not_not, bz0, bz1, wi_nil, ld_0, ld_s, isIv_I, isLv_L, isRv_R, true_and, and_true, lset_0, lset_1, lset_s, avw_I, avw_L, avw_R, clr_cons, clr_nil, kst_0, kst_1, kstL_0, kstL_1, addk_I, pA_0, pA_s, pD_0, pD_s, wid_nil, wid_cons, rcv_c, putv_I, putv_L, List.length_cons, List.length_nil, List.set_cons_zero, List.set_cons_succ, not_false_eq_true, Nat.reduceMod, Nat.reduceDiv, Nat.reduceEqDiff, Nat.reduceLT, Nat.reduceLeDiff, Nat.reduceAdd, Nat.reduceSub, reduceIte, Nat.lt_irrefl, Nat.zero_ne_one, Nat.one_ne_zero, Nat.zero_add, List.nil_append, List.cons_append, Option.toList_some, Option.toList_none, forall_const, false_implies, true_implies, false_or, or_false, true_or, or_true, i_le, i_lt, i_eq, i_eq0, i_lt0, i_0le, i_0lt, i_le0, i_in1, i_cl, nI_add, pk_mul, pk_sub, i_div, i_rem, i_sh1, i_bit, i_or, i_and, i_andn, nt_le, nf_le, nt_lt, nf_lt, nt_eq, nf_eq, not_true_eq_false, and_self, and_false, false_and, eq_self, Bool.toNat_true, Bool.toNat_false, i_bool, i_bool1, Bool.false_eq_true, Bool.true_eq_false, reduceCtorEq, i_neg1, i_neg2, i_neg3, i_neg4, i_neg5, i_neg6, i_neg7, i_neg8, i_neg9, i_nega, i_negb, i_negc, i_max2, i_min2]
    exact q
  | succ m ih =>
    intro k hk
    have a1 : k &&& (31 - s) < 32 := and_lt32 (by omega)
    have hbk := bct_lt (s := k) (by omega)
    have hnx := ih (k + 1) (by omega)
    have en : odM s v p (k + 1) = odM s v p k + (if (decide (k &&& (31 - s) = 0) && decide (v ≤ bct k)) = true then odw (bct s) p (bct k) else 0) := rfl
    rw [en] at hnx
    refine s_X9_odds_82 ?_
    simp (disch := omega) only [B_X9_odds_82, wi_iload, wi_icmp_gt, wi_iconst, wi_ixor, wi_iand, wi_if_ne, wi_invokestatic, no0, no1, nz1, nz2, nz3, nz4, nz5, nz7, nz8, Classical.not_not, bz0, bz1, wi_nil, ld_0, ld_s, isIv_I, isLv_L, isRv_R, true_and, and_true, lset_0, lset_1, lset_s, avw_I, avw_L, avw_R, clr_cons, clr_nil, kst_0, kst_1, kstL_0, kstL_1, addk_I, pA_0, pA_s, pD_0, pD_s, wid_nil, wid_cons, rcv_c, putv_I, putv_L, List.length_cons, List.length_nil, List.set_cons_zero, List.set_cons_succ, not_false_eq_true, Nat.reduceMod, Nat.reduceDiv, Nat.reduceEqDiff, Nat.reduceLT, Nat.reduceLeDiff, Nat.reduceAdd, Nat.reduceSub, reduceIte, Nat.lt_irrefl, Nat.zero_ne_one, Nat.one_ne_zero, Nat.zero_add, List.nil_append, List.cons_append, Option.toList_some, Option.toList_none, forall_const, false_implies, true_implies, false_or, or_false, true_or, or_true, i_le, i_lt, i_eq, i_eq0, i_lt0, i_0le, i_0lt, i_le0, i_in1, i_cl, nI_add, pk_mul, pk_sub, i_div, i_rem, i_sh1, i_bit, i_or, i_and, i_andn, nt_le, nf_le, nt_lt, nf_lt, nt_eq, nf_eq, not_true_eq_false, and_self, and_false, false_and, eq_self, Bool.toNat_true, Bool.toNat_false, i_bool, i_bool1, Bool.false_eq_true, Bool.true_eq_false, reduceCtorEq, i_neg1, i_neg2, i_neg3, i_neg4, i_neg5, i_neg6, i_neg7, i_neg8, i_neg9, i_nega, i_negb, i_negc, i_max2, i_min2]
    by_cases c1 : k &&& (31 - s) = 0
    · simp (disch := omega) only [no0, no1, nz1, nz2, nz3, nz4, nz5, nz7, nz8, Classical.not_not, bz0, bz1, wi_nil, ld_0, ld_s, isIv_I, isLv_L, isRv_R, true_and, and_true, lset_0, lset_1, lset_s, avw_I, avw_L, avw_R, clr_cons, clr_nil, kst_0, kst_1, kstL_0, kstL_1, addk_I, pA_0, pA_s, pD_0, pD_s, wid_nil, wid_cons, rcv_c, putv_I, putv_L, List.length_cons, List.length_nil, List.set_cons_zero, List.set_cons_succ, not_false_eq_true, Nat.reduceMod, Nat.reduceDiv, Nat.reduceEqDiff, Nat.reduceLT, Nat.reduceLeDiff, Nat.reduceAdd, Nat.reduceSub, reduceIte, Nat.lt_irrefl, Nat.zero_ne_one, Nat.one_ne_zero, Nat.zero_add, List.nil_append, List.cons_append, Option.toList_some, Option.toList_none, forall_const, false_implies, true_implies, false_or, or_false, true_or, or_true, i_le, i_lt, i_eq, i_eq0, i_lt0, i_0le, i_0lt, i_le0, i_in1, i_cl, nI_add, pk_mul, pk_sub, i_div, i_rem, i_sh1, i_bit, i_or, i_and, i_andn, nt_le, nf_le, nt_lt, nf_lt, nt_eq, nf_eq, not_true_eq_false, and_self, and_false, false_and, eq_self, Bool.toNat_true, Bool.toNat_false, i_bool, i_bool1, Bool.false_eq_true, Bool.true_eq_false, reduceCtorEq, i_neg1, i_neg2, i_neg3, i_neg4, i_neg5, i_neg6, i_neg7, i_neg8, i_neg9, i_nega, i_negb, i_negc, i_max2, i_min2, c1]
      refine c_bits (by omega) ?_
      by_cases c2 : v ≤ bct k
      · rw [decide_eq_true c1, decide_eq_true c2, Bool.true_and, if_pos rfl] at hnx
        have hsub : ∀ i, k.testBit i = true → s.testBit i = true := by
          intro i hi
          have i5 : i < 5 := by
            rcases Nat.lt_or_ge i 5 with a | a
            · exact a
            · rw [hi_bit (by omega) a] at hi; cases hi
          have := and0_bit c1 hi
          rw [n31_bit hs i5] at this
          simpa using this
        obtain ⟨e1, e2⟩ := pwM_eq (p := p) hsub (Y 6 0)
        have hlt : ∀ x, (∀ i, x.testBit i = true → i < Y 6 0) → bct x = csum (fun _ => 1) (Y 6 0) x := by
          intro x hx
          refine csum_high 6 (Y 6 0) x (by omega) ?_
          apply Nat.lt_pow_two_of_testBit
          intro i hi
          cases hb : x.testBit i
          · rfl
          · have := hx i hb; omega
        have ew : pwM s p k (Y 6 0) = odw (bct s) p (bct k) := by
          rw [e2, hlt s hsn, hlt k (fun i hi => hsn i (hsub i hi))]
          rfl
        rw [← ew] at hnx
        try simp (disch := omega) only [no0, no1, nz1, nz2, nz3, nz4, nz5, nz7, nz8, Classical.not_not, bz0, bz1, wi_nil, ld_0, ld_s, isIv_I, isLv_L, isRv_R, true_and, and_true, lset_0, lset_1, lset_s, avw_I, avw_L, avw_R, clr_cons, clr_nil, kst_0, kst_1, kstL_0, kstL_1, addk_I, pA_0, pA_s, pD_0, pD_s, wid_nil, wid_cons, rcv_c, putv_I, putv_L, List.length_cons, List.length_nil, List.set_cons_zero, List.set_cons_succ, not_false_eq_true, Nat.reduceMod, Nat.reduceDiv, Nat.reduceEqDiff, Nat.reduceLT, Nat.reduceLeDiff, Nat.reduceAdd, Nat.reduceSub, reduceIte, Nat.lt_irrefl, Nat.zero_ne_one, Nat.one_ne_zero, Nat.zero_add, List.nil_append, List.cons_append, Option.toList_some, Option.toList_none, forall_const, false_implies, true_implies, false_or, or_false, true_or, or_true, i_le, i_lt, i_eq, i_eq0, i_lt0, i_0le, i_0lt, i_le0, i_in1, i_cl, nI_add, pk_mul, pk_sub, i_div, i_rem, i_sh1, i_bit, i_or, i_and, i_andn, nt_le, nf_le, nt_lt, nf_lt, nt_eq, nf_eq, not_true_eq_false, and_self, and_false, false_and, eq_self, Bool.toNat_true, Bool.toNat_false, i_bool, i_bool1, Bool.false_eq_true, Bool.true_eq_false, reduceCtorEq, i_neg1, i_neg2, i_neg3, i_neg4, i_neg5, i_neg6, i_neg7, i_neg8, i_neg9, i_nega, i_negb, i_negc, i_max2, i_min2, wi_nil]
        repeat (
          first
          | refine s_X9_odds_0 ?_
          | refine s_X9_odds_7 ?_
          | refine s_X9_odds_17 ?_
          | refine s_X9_odds_24 ?_
          | refine s_X9_odds_25 ?_
          | refine s_X9_odds_28 ?_
          | refine s_X9_odds_35 ?_
          | refine s_X9_odds_44 ?_
          | refine s_X9_odds_62 ?_
          | refine s_X9_odds_79 ?_
          | refine s_X9_odds_104 ?_
          | refine s_X9_odds_132 ?_
          | refine s_X9_odds_139 ?_
          | refine s_X9_odds_146 ?_
          | refine s_X9_odds_157 ?_
          | refine s_X9_odds_159 ?_
          | refine s_X9_odds_168 ?_
          | refine s_X9_odds_175 ?_
          | refine s_X9_odds_181 ?_
          | refine s_X9_odds_189 ?_
          simp (disch := omega) only [B_X9_odds_0, wi_aload_n, wi_iload_n, wi_iconst, wi_invokestatic, B_X9_odds_7, wi_if_eq, wi_bipush, B_X9_odds_17, wi_goto, B_X9_odds_24, B_X9_odds_25, wi_invokevirtual, cnt_8, B_X9_odds_28, wi_istore_n, wi_if_ge, wi_ireturn, B_X9_odds_35, wi_getfield, fldv_8_20, fds_8_20, B_X9_odds_44, wi_istore, wi_lconst, wi_lstore, B_X9_odds_55, wi_iload, B_X9_odds_62, wi_icmp_ge, wi_lload, wi_ldc2_w, wi_lmul, wi_iinc, B_X9_odds_79, B_X9_odds_82, wi_icmp_gt, wi_ixor, wi_iand, wi_if_ne, B_X9_odds_104, wi_icmp_lt, B_X9_odds_114, fldv_8_10, fds_8_10, B_X9_odds_132, B_X9_odds_139, B_X9_odds_146, wi_isub, wi_i2l, B_X9_odds_157, B_X9_odds_159, B_X9_odds_168, wi_ladd, B_X9_odds_175, B_X9_odds_181, B_X9_odds_189, no0, no1, nz1, nz2, nz3, nz4, nz5, nz7, nz8, Classical.not_not, bz0, bz1, wi_nil, ld_0, ld_s, isIv_I, isLv_L, isRv_R, true_and, and_true, lset_0, lset_1, lset_s, avw_I, avw_L, avw_R, clr_cons, clr_nil, kst_0, kst_1, kstL_0, kstL_1, addk_I, pA_0, pA_s, pD_0, pD_s, wid_nil, wid_cons, rcv_c, putv_I, putv_L, List.length_cons, List.length_nil, List.set_cons_zero, List.set_cons_succ, not_false_eq_true, Nat.reduceMod, Nat.reduceDiv, Nat.reduceEqDiff, Nat.reduceLT, Nat.reduceLeDiff, Nat.reduceAdd, Nat.reduceSub, reduceIte, Nat.lt_irrefl, Nat.zero_ne_one, Nat.one_ne_zero, Nat.zero_add, List.nil_append, List.cons_append, Option.toList_some, Option.toList_none, forall_const, false_implies, true_implies, false_or, or_false, true_or, or_true, i_le, i_lt, i_eq, i_eq0, i_lt0, i_0le, i_0lt, i_le0, i_in1, i_cl, nI_add, pk_mul, pk_sub, i_div, i_rem, i_sh1, i_bit, i_or, i_and, i_andn, nt_le, nf_le, nt_lt, nf_lt, nt_eq, nf_eq, not_true_eq_false, and_self, and_false, false_and, eq_self, Bool.toNat_true, Bool.toNat_false, i_bool, i_bool1, Bool.false_eq_true, Bool.true_eq_false, reduceCtorEq, i_neg1, i_neg2, i_neg3, i_neg4, i_neg5, i_neg6, i_neg7, i_neg8, i_neg9, i_nega, i_negb, i_negc, i_max2, i_min2])
        refine l_mpart hp hs (by omega) hm hn5 ?_ (Y 6 0) 0 (by omega)
        try simp (disch := omega) only [no0, no1, nz1, nz2, nz3, nz4, nz5, nz7, nz8, Classical.not_not, bz0, bz1, wi_nil, ld_0, ld_s, isIv_I, isLv_L, isRv_R, true_and, and_true, lset_0, lset_1, lset_s, avw_I, avw_L, avw_R, clr_cons, clr_nil, kst_0, kst_1, kstL_0, kstL_1, addk_I, pA_0, pA_s, pD_0, pD_s, wid_nil, wid_cons, rcv_c, putv_I, putv_L, List.length_cons, List.length_nil, List.set_cons_zero, List.set_cons_succ, not_false_eq_true, Nat.reduceMod, Nat.reduceDiv, Nat.reduceEqDiff, Nat.reduceLT, Nat.reduceLeDiff, Nat.reduceAdd, Nat.reduceSub, reduceIte, Nat.lt_irrefl, Nat.zero_ne_one, Nat.one_ne_zero, Nat.zero_add, List.nil_append, List.cons_append, Option.toList_some, Option.toList_none, forall_const, false_implies, true_implies, false_or, or_false, true_or, or_true, i_le, i_lt, i_eq, i_eq0, i_lt0, i_0le, i_0lt, i_le0, i_in1, i_cl, nI_add, pk_mul, pk_sub, i_div, i_rem, i_sh1, i_bit, i_or, i_and, i_andn, nt_le, nf_le, nt_lt, nf_lt, nt_eq, nf_eq, not_true_eq_false, and_self, and_false, false_and, eq_self, Bool.toNat_true, Bool.toNat_false, i_bool, i_bool1, Bool.false_eq_true, Bool.true_eq_false, reduceCtorEq, i_neg1, i_neg2, i_neg3, i_neg4, i_neg5, i_neg6, i_neg7, i_neg8, i_neg9, i_nega, i_negb, i_negc, i_max2, i_min2, lN_add, wi_nil]
        repeat (
          first
          | refine s_X9_odds_0 ?_
          | refine s_X9_odds_7 ?_
          | refine s_X9_odds_17 ?_
          | refine s_X9_odds_24 ?_
          | refine s_X9_odds_25 ?_
          | refine s_X9_odds_28 ?_
          | refine s_X9_odds_35 ?_
          | refine s_X9_odds_44 ?_
          | refine s_X9_odds_62 ?_
          | refine s_X9_odds_79 ?_
          | refine s_X9_odds_104 ?_
          | refine s_X9_odds_132 ?_
          | refine s_X9_odds_139 ?_
          | refine s_X9_odds_146 ?_
          | refine s_X9_odds_157 ?_
          | refine s_X9_odds_159 ?_
          | refine s_X9_odds_168 ?_
          | refine s_X9_odds_175 ?_
          | refine s_X9_odds_181 ?_
          | refine s_X9_odds_189 ?_
          simp (disch := omega) only [B_X9_odds_0, wi_aload_n, wi_iload_n, wi_iconst, wi_invokestatic, B_X9_odds_7, wi_if_eq, wi_bipush, B_X9_odds_17, wi_goto, B_X9_odds_24, B_X9_odds_25, wi_invokevirtual, cnt_8, B_X9_odds_28, wi_istore_n, wi_if_ge, wi_ireturn, B_X9_odds_35, wi_getfield, fldv_8_20, fds_8_20, B_X9_odds_44, wi_istore, wi_lconst, wi_lstore, B_X9_odds_55, wi_iload, B_X9_odds_62, wi_icmp_ge, wi_lload, wi_ldc2_w, wi_lmul, wi_iinc, B_X9_odds_79, B_X9_odds_82, wi_icmp_gt, wi_ixor, wi_iand, wi_if_ne, B_X9_odds_104, wi_icmp_lt, B_X9_odds_114, fldv_8_10, fds_8_10, B_X9_odds_132, B_X9_odds_139, B_X9_odds_146, wi_isub, wi_i2l, B_X9_odds_157, B_X9_odds_159, B_X9_odds_168, wi_ladd, B_X9_odds_175, B_X9_odds_181, B_X9_odds_189, no0, no1, nz1, nz2, nz3, nz4, nz5, nz7, nz8, Classical.not_not, bz0, bz1, wi_nil, ld_0, ld_s, isIv_I, isLv_L, isRv_R, true_and, and_true, lset_0, lset_1, lset_s, avw_I, avw_L, avw_R, clr_cons, clr_nil, kst_0, kst_1, kstL_0, kstL_1, addk_I, pA_0, pA_s, pD_0, pD_s, wid_nil, wid_cons, rcv_c, putv_I, putv_L, List.length_cons, List.length_nil, List.set_cons_zero, List.set_cons_succ, not_false_eq_true, Nat.reduceMod, Nat.reduceDiv, Nat.reduceEqDiff, Nat.reduceLT, Nat.reduceLeDiff, Nat.reduceAdd, Nat.reduceSub, reduceIte, Nat.lt_irrefl, Nat.zero_ne_one, Nat.one_ne_zero, Nat.zero_add, List.nil_append, List.cons_append, Option.toList_some, Option.toList_none, forall_const, false_implies, true_implies, false_or, or_false, true_or, or_true, i_le, i_lt, i_eq, i_eq0, i_lt0, i_0le, i_0lt, i_le0, i_in1, i_cl, nI_add, pk_mul, pk_sub, i_div, i_rem, i_sh1, i_bit, i_or, i_and, i_andn, nt_le, nf_le, nt_lt, nf_lt, nt_eq, nf_eq, not_true_eq_false, and_self, and_false, false_and, eq_self, Bool.toNat_true, Bool.toNat_false, i_bool, i_bool1, Bool.false_eq_true, Bool.true_eq_false, reduceCtorEq, i_neg1, i_neg2, i_neg3, i_neg4, i_neg5, i_neg6, i_neg7, i_neg8, i_neg9, i_nega, i_negb, i_negc, i_max2, i_min2, lN_add])
        exact hnx
      · rw [decide_eq_false c2, Bool.and_false, if_neg (by decide), Nat.add_zero] at hnx
        try simp (disch := omega) only [no0, no1, nz1, nz2, nz3, nz4, nz5, nz7, nz8, Classical.not_not, bz0, bz1, wi_nil, ld_0, ld_s, isIv_I, isLv_L, isRv_R, true_and, and_true, lset_0, lset_1, lset_s, avw_I, avw_L, avw_R, clr_cons, clr_nil, kst_0, kst_1, kstL_0, kstL_1, addk_I, pA_0, pA_s, pD_0, pD_s, wid_nil, wid_cons, rcv_c, putv_I, putv_L, List.length_cons, List.length_nil, List.set_cons_zero, List.set_cons_succ, not_false_eq_true, Nat.reduceMod, Nat.reduceDiv, Nat.reduceEqDiff, Nat.reduceLT, Nat.reduceLeDiff, Nat.reduceAdd, Nat.reduceSub, reduceIte, Nat.lt_irrefl, Nat.zero_ne_one, Nat.one_ne_zero, Nat.zero_add, List.nil_append, List.cons_append, Option.toList_some, Option.toList_none, forall_const, false_implies, true_implies, false_or, or_false, true_or, or_true, i_le, i_lt, i_eq, i_eq0, i_lt0, i_0le, i_0lt, i_le0, i_in1, i_cl, nI_add, pk_mul, pk_sub, i_div, i_rem, i_sh1, i_bit, i_or, i_and, i_andn, nt_le, nf_le, nt_lt, nf_lt, nt_eq, nf_eq, not_true_eq_false, and_self, and_false, false_and, eq_self, Bool.toNat_true, Bool.toNat_false, i_bool, i_bool1, Bool.false_eq_true, Bool.true_eq_false, reduceCtorEq, i_neg1, i_neg2, i_neg3, i_neg4, i_neg5, i_neg6, i_neg7, i_neg8, i_neg9, i_nega, i_negb, i_negc, i_max2, i_min2, wi_nil]
        repeat (
          first
          | refine s_X9_odds_0 ?_
          | refine s_X9_odds_7 ?_
          | refine s_X9_odds_17 ?_
          | refine s_X9_odds_24 ?_
          | refine s_X9_odds_25 ?_
          | refine s_X9_odds_28 ?_
          | refine s_X9_odds_35 ?_
          | refine s_X9_odds_44 ?_
          | refine s_X9_odds_62 ?_
          | refine s_X9_odds_79 ?_
          | refine s_X9_odds_104 ?_
          | refine s_X9_odds_132 ?_
          | refine s_X9_odds_139 ?_
          | refine s_X9_odds_146 ?_
          | refine s_X9_odds_157 ?_
          | refine s_X9_odds_159 ?_
          | refine s_X9_odds_168 ?_
          | refine s_X9_odds_175 ?_
          | refine s_X9_odds_181 ?_
          | refine s_X9_odds_189 ?_
          simp (disch := omega) only [B_X9_odds_0, wi_aload_n, wi_iload_n, wi_iconst, wi_invokestatic, B_X9_odds_7, wi_if_eq, wi_bipush, B_X9_odds_17, wi_goto, B_X9_odds_24, B_X9_odds_25, wi_invokevirtual, cnt_8, B_X9_odds_28, wi_istore_n, wi_if_ge, wi_ireturn, B_X9_odds_35, wi_getfield, fldv_8_20, fds_8_20, B_X9_odds_44, wi_istore, wi_lconst, wi_lstore, B_X9_odds_55, wi_iload, B_X9_odds_62, wi_icmp_ge, wi_lload, wi_ldc2_w, wi_lmul, wi_iinc, B_X9_odds_79, B_X9_odds_82, wi_icmp_gt, wi_ixor, wi_iand, wi_if_ne, B_X9_odds_104, wi_icmp_lt, B_X9_odds_114, fldv_8_10, fds_8_10, B_X9_odds_132, B_X9_odds_139, B_X9_odds_146, wi_isub, wi_i2l, B_X9_odds_157, B_X9_odds_159, B_X9_odds_168, wi_ladd, B_X9_odds_175, B_X9_odds_181, B_X9_odds_189, no0, no1, nz1, nz2, nz3, nz4, nz5, nz7, nz8, Classical.not_not, bz0, bz1, wi_nil, ld_0, ld_s, isIv_I, isLv_L, isRv_R, true_and, and_true, lset_0, lset_1, lset_s, avw_I, avw_L, avw_R, clr_cons, clr_nil, kst_0, kst_1, kstL_0, kstL_1, addk_I, pA_0, pA_s, pD_0, pD_s, wid_nil, wid_cons, rcv_c, putv_I, putv_L, List.length_cons, List.length_nil, List.set_cons_zero, List.set_cons_succ, not_false_eq_true, Nat.reduceMod, Nat.reduceDiv, Nat.reduceEqDiff, Nat.reduceLT, Nat.reduceLeDiff, Nat.reduceAdd, Nat.reduceSub, reduceIte, Nat.lt_irrefl, Nat.zero_ne_one, Nat.one_ne_zero, Nat.zero_add, List.nil_append, List.cons_append, Option.toList_some, Option.toList_none, forall_const, false_implies, true_implies, false_or, or_false, true_or, or_true, i_le, i_lt, i_eq, i_eq0, i_lt0, i_0le, i_0lt, i_le0, i_in1, i_cl, nI_add, pk_mul, pk_sub, i_div, i_rem, i_sh1, i_bit, i_or, i_and, i_andn, nt_le, nf_le, nt_lt, nf_lt, nt_eq, nf_eq, not_true_eq_false, and_self, and_false, false_and, eq_self, Bool.toNat_true, Bool.toNat_false, i_bool, i_bool1, Bool.false_eq_true, Bool.true_eq_false, reduceCtorEq, i_neg1, i_neg2, i_neg3, i_neg4, i_neg5, i_neg6, i_neg7, i_neg8, i_neg9, i_nega, i_negb, i_negc, i_max2, i_min2])
        exact hnx
    · rw [decide_eq_false c1, Bool.false_and, if_neg (by decide), Nat.add_zero] at hnx
      simp (disch := omega) only [no0, no1, nz1, nz2, nz3, nz4, nz5, nz7, nz8, Classical.not_not, bz0, bz1, wi_nil, ld_0, ld_s, isIv_I, isLv_L, isRv_R, true_and, and_true, lset_0, lset_1, lset_s, avw_I, avw_L, avw_R, clr_cons, clr_nil, kst_0, kst_1, kstL_0, kstL_1, addk_I, pA_0, pA_s, pD_0, pD_s, wid_nil, wid_cons, rcv_c, putv_I, putv_L, List.length_cons, List.length_nil, List.set_cons_zero, List.set_cons_succ, not_false_eq_true, Nat.reduceMod, Nat.reduceDiv, Nat.reduceEqDiff, Nat.reduceLT, Nat.reduceLeDiff, Nat.reduceAdd, Nat.reduceSub, reduceIte, Nat.lt_irrefl, Nat.zero_ne_one, Nat.one_ne_zero, Nat.zero_add, List.nil_append, List.cons_append, Option.toList_some, Option.toList_none, forall_const, false_implies, true_implies, false_or, or_false, true_or, or_true, i_le, i_lt, i_eq, i_eq0, i_lt0, i_0le, i_0lt, i_le0, i_in1, i_cl, nI_add, pk_mul, pk_sub, i_div, i_rem, i_sh1, i_bit, i_or, i_and, i_andn, nt_le, nf_le, nt_lt, nf_lt, nt_eq, nf_eq, not_true_eq_false, and_self, and_false, false_and, eq_self, Bool.toNat_true, Bool.toNat_false, i_bool, i_bool1, Bool.false_eq_true, Bool.true_eq_false, reduceCtorEq, i_neg1, i_neg2, i_neg3, i_neg4, i_neg5, i_neg6, i_neg7, i_neg8, i_neg9, i_nega, i_negb, i_negc, i_max2, i_min2]
      try simp (disch := omega) only [no0, no1, nz1, nz2, nz3, nz4, nz5, nz7, nz8, Classical.not_not, bz0, bz1, wi_nil, ld_0, ld_s, isIv_I, isLv_L, isRv_R, true_and, and_true, lset_0, lset_1, lset_s, avw_I, avw_L, avw_R, clr_cons, clr_nil, kst_0, kst_1, kstL_0, kstL_1, addk_I, pA_0, pA_s, pD_0, pD_s, wid_nil, wid_cons, rcv_c, putv_I, putv_L, List.length_cons, List.length_nil, List.set_cons_zero, List.set_cons_succ, not_false_eq_true, Nat.reduceMod, Nat.reduceDiv, Nat.reduceEqDiff, Nat.reduceLT, Nat.reduceLeDiff, Nat.reduceAdd, Nat.reduceSub, reduceIte, Nat.lt_irrefl, Nat.zero_ne_one, Nat.one_ne_zero, Nat.zero_add, List.nil_append, List.cons_append, Option.toList_some, Option.toList_none, forall_const, false_implies, true_implies, false_or, or_false, true_or, or_true, i_le, i_lt, i_eq, i_eq0, i_lt0, i_0le, i_0lt, i_le0, i_in1, i_cl, nI_add, pk_mul, pk_sub, i_div, i_rem, i_sh1, i_bit, i_or, i_and, i_andn, nt_le, nf_le, nt_lt, nf_lt, nt_eq, nf_eq, not_true_eq_false, and_self, and_false, false_and, eq_self, Bool.toNat_true, Bool.toNat_false, i_bool, i_bool1, Bool.false_eq_true, Bool.true_eq_false, reduceCtorEq, i_neg1, i_neg2, i_neg3, i_neg4, i_neg5, i_neg6, i_neg7, i_neg8, i_neg9, i_nega, i_negb, i_negc, i_max2, i_min2, wi_nil]
      repeat (
        first
        | refine s_X9_odds_0 ?_
        | refine s_X9_odds_7 ?_
        | refine s_X9_odds_17 ?_
        | refine s_X9_odds_24 ?_
        | refine s_X9_odds_25 ?_
        | refine s_X9_odds_28 ?_
        | refine s_X9_odds_35 ?_
        | refine s_X9_odds_44 ?_
        | refine s_X9_odds_62 ?_
        | refine s_X9_odds_79 ?_
        | refine s_X9_odds_104 ?_
        | refine s_X9_odds_132 ?_
        | refine s_X9_odds_139 ?_
        | refine s_X9_odds_146 ?_
        | refine s_X9_odds_157 ?_
        | refine s_X9_odds_159 ?_
        | refine s_X9_odds_168 ?_
        | refine s_X9_odds_175 ?_
        | refine s_X9_odds_181 ?_
        | refine s_X9_odds_189 ?_
        simp (disch := omega) only [B_X9_odds_0, wi_aload_n, wi_iload_n, wi_iconst, wi_invokestatic, B_X9_odds_7, wi_if_eq, wi_bipush, B_X9_odds_17, wi_goto, B_X9_odds_24, B_X9_odds_25, wi_invokevirtual, cnt_8, B_X9_odds_28, wi_istore_n, wi_if_ge, wi_ireturn, B_X9_odds_35, wi_getfield, fldv_8_20, fds_8_20, B_X9_odds_44, wi_istore, wi_lconst, wi_lstore, B_X9_odds_55, wi_iload, B_X9_odds_62, wi_icmp_ge, wi_lload, wi_ldc2_w, wi_lmul, wi_iinc, B_X9_odds_79, B_X9_odds_82, wi_icmp_gt, wi_ixor, wi_iand, wi_if_ne, B_X9_odds_104, wi_icmp_lt, B_X9_odds_114, fldv_8_10, fds_8_10, B_X9_odds_132, B_X9_odds_139, B_X9_odds_146, wi_isub, wi_i2l, B_X9_odds_157, B_X9_odds_159, B_X9_odds_168, wi_ladd, B_X9_odds_175, B_X9_odds_181, B_X9_odds_189, no0, no1, nz1, nz2, nz3, nz4, nz5, nz7, nz8, Classical.not_not, bz0, bz1, wi_nil, ld_0, ld_s, isIv_I, isLv_L, isRv_R, true_and, and_true, lset_0, lset_1, lset_s, avw_I, avw_L, avw_R, clr_cons, clr_nil, kst_0, kst_1, kstL_0, kstL_1, addk_I, pA_0, pA_s, pD_0, pD_s, wid_nil, wid_cons, rcv_c, putv_I, putv_L, List.length_cons, List.length_nil, List.set_cons_zero, List.set_cons_succ, not_false_eq_true, Nat.reduceMod, Nat.reduceDiv, Nat.reduceEqDiff, Nat.reduceLT, Nat.reduceLeDiff, Nat.reduceAdd, Nat.reduceSub, reduceIte, Nat.lt_irrefl, Nat.zero_ne_one, Nat.one_ne_zero, Nat.zero_add, List.nil_append, List.cons_append, Option.toList_some, Option.toList_none, forall_const, false_implies, true_implies, false_or, or_false, true_or, or_true, i_le, i_lt, i_eq, i_eq0, i_lt0, i_0le, i_0lt, i_le0, i_in1, i_cl, nI_add, pk_mul, pk_sub, i_div, i_rem, i_sh1, i_bit, i_or, i_and, i_andn, nt_le, nf_le, nt_lt, nf_lt, nt_eq, nf_eq, not_true_eq_false, and_self, and_false, false_and, eq_self, Bool.toNat_true, Bool.toNat_false, i_bool, i_bool1, Bool.false_eq_true, Bool.true_eq_false, reduceCtorEq, i_neg1, i_neg2, i_neg3, i_neg4, i_neg5, i_neg6, i_neg7, i_neg8, i_neg9, i_nega, i_negb, i_negc, i_max2, i_min2])
      exact hnx
theorem o_odds {v p : Int32} (h : Rr S) : wpM (d + 10) mX8_odds [aR 7 0, aI v, aI p] S (PX d mX9_odds [aI v, aI p]) := by
  obtain ⟨Y, hy, hok, hm⟩ := r_year h
  have hn5 := hok.1.1
  cases hv : inB v 6
  · have key : wpM (d + 10) mX9_odds [aR 8 0, aI v, aI p] S (PM (-nI 1)) := by
      refine x_entry (ls2 := [aR 8 0, aI v, aI p, aU, aU, aU, aU, aU, aU, aU, aU, aU, aU]) (Nat.le_of_ble_eq_true rfl) pl_9 rfl (Nat.le_of_ble_eq_true rfl) ?_
      try simp (disch := omega) only [no0, no1, nz1, nz2, nz3, nz4, nz5, nz7, nz8, Classical.not_not, bz0, bz1, wi_nil, ld_0, ld_s, isIv_I, isLv_L, isRv_R, true_and, and_true, lset_0, lset_1, lset_s, avw_I, avw_L, avw_R, clr_cons, clr_nil, kst_0, kst_1, kstL_0, kstL_1, addk_I, pA_0, pA_s, pD_0, pD_s, wid_nil, wid_cons, rcv_c, putv_I, putv_L, List.length_cons, List.length_nil, List.set_cons_zero, List.set_cons_succ, not_false_eq_true, Nat.reduceMod, Nat.reduceDiv, Nat.reduceEqDiff, Nat.reduceLT, Nat.reduceLeDiff, Nat.reduceAdd, Nat.reduceSub, reduceIte, Nat.lt_irrefl, Nat.zero_ne_one, Nat.one_ne_zero, Nat.zero_add, List.nil_append, List.cons_append, Option.toList_some, Option.toList_none, forall_const, false_implies, true_implies, false_or, or_false, true_or, or_true, i_le, i_lt, i_eq, i_eq0, i_lt0, i_0le, i_0lt, i_le0, i_in1, i_cl, nI_add, pk_mul, pk_sub, i_div, i_rem, i_sh1, i_bit, i_or, i_and, i_andn, nt_le, nf_le, nt_lt, nf_lt, nt_eq, nf_eq, not_true_eq_false, and_self, and_false, false_and, eq_self, Bool.toNat_true, Bool.toNat_false, i_bool, i_bool1, Bool.false_eq_true, Bool.true_eq_false, reduceCtorEq, i_neg1, i_neg2, i_neg3, i_neg4, i_neg5, i_neg6, i_neg7, i_neg8, i_neg9, i_nega, i_negb, i_negc, i_max2, i_min2, wi_nil]
      repeat (
        first
        | refine s_X9_odds_0 ?_
        | refine s_X9_odds_7 ?_
        | refine s_X9_odds_17 ?_
        | refine s_X9_odds_24 ?_
        | refine s_X9_odds_25 ?_
        | refine s_X9_odds_28 ?_
        | refine s_X9_odds_35 ?_
        | refine s_X9_odds_44 ?_
        | refine s_X9_odds_62 ?_
        | refine s_X9_odds_79 ?_
        | refine s_X9_odds_104 ?_
        | refine s_X9_odds_132 ?_
        | refine s_X9_odds_139 ?_
        | refine s_X9_odds_146 ?_
        | refine s_X9_odds_157 ?_
        | refine s_X9_odds_159 ?_
        | refine s_X9_odds_168 ?_
        | refine s_X9_odds_175 ?_
        | refine s_X9_odds_181 ?_
        | refine s_X9_odds_189 ?_
        simp (disch := omega) only [B_X9_odds_0, wi_aload_n, wi_iload_n, wi_iconst, wi_invokestatic, B_X9_odds_7, wi_if_eq, wi_bipush, B_X9_odds_17, wi_goto, B_X9_odds_24, B_X9_odds_25, wi_invokevirtual, cnt_8, B_X9_odds_28, wi_istore_n, wi_if_ge, wi_ireturn, B_X9_odds_35, wi_getfield, fldv_8_20, fds_8_20, B_X9_odds_44, wi_istore, wi_lconst, wi_lstore, B_X9_odds_55, wi_iload, B_X9_odds_62, wi_icmp_ge, wi_lload, wi_ldc2_w, wi_lmul, wi_iinc, B_X9_odds_79, B_X9_odds_82, wi_icmp_gt, wi_ixor, wi_iand, wi_if_ne, B_X9_odds_104, wi_icmp_lt, B_X9_odds_114, fldv_8_10, fds_8_10, B_X9_odds_132, B_X9_odds_139, B_X9_odds_146, wi_isub, wi_i2l, B_X9_odds_157, B_X9_odds_159, B_X9_odds_168, wi_ladd, B_X9_odds_175, B_X9_odds_181, B_X9_odds_189, no0, no1, nz1, nz2, nz3, nz4, nz5, nz7, nz8, Classical.not_not, bz0, bz1, wi_nil, ld_0, ld_s, isIv_I, isLv_L, isRv_R, true_and, and_true, lset_0, lset_1, lset_s, avw_I, avw_L, avw_R, clr_cons, clr_nil, kst_0, kst_1, kstL_0, kstL_1, addk_I, pA_0, pA_s, pD_0, pD_s, wid_nil, wid_cons, rcv_c, putv_I, putv_L, List.length_cons, List.length_nil, List.set_cons_zero, List.set_cons_succ, not_false_eq_true, Nat.reduceMod, Nat.reduceDiv, Nat.reduceEqDiff, Nat.reduceLT, Nat.reduceLeDiff, Nat.reduceAdd, Nat.reduceSub, reduceIte, Nat.lt_irrefl, Nat.zero_ne_one, Nat.one_ne_zero, Nat.zero_add, List.nil_append, List.cons_append, Option.toList_some, Option.toList_none, forall_const, false_implies, true_implies, false_or, or_false, true_or, or_true, i_le, i_lt, i_eq, i_eq0, i_lt0, i_0le, i_0lt, i_le0, i_in1, i_cl, nI_add, pk_mul, pk_sub, i_div, i_rem, i_sh1, i_bit, i_or, i_and, i_andn, nt_le, nf_le, nt_lt, nf_lt, nt_eq, nf_eq, not_true_eq_false, and_self, and_false, false_and, eq_self, Bool.toNat_true, Bool.toNat_false, i_bool, i_bool1, Bool.false_eq_true, Bool.true_eq_false, reduceCtorEq, i_neg1, i_neg2, i_neg3, i_neg4, i_neg5, i_neg6, i_neg7, i_neg8, i_neg9, i_nega, i_negb, i_negc, i_max2, i_min2])
      refine c_in (inb_le (N := 5) (by decide)) ?_
      try simp (disch := omega) only [no0, no1, nz1, nz2, nz3, nz4, nz5, nz7, nz8, Classical.not_not, bz0, bz1, wi_nil, ld_0, ld_s, isIv_I, isLv_L, isRv_R, true_and, and_true, lset_0, lset_1, lset_s, avw_I, avw_L, avw_R, clr_cons, clr_nil, kst_0, kst_1, kstL_0, kstL_1, addk_I, pA_0, pA_s, pD_0, pD_s, wid_nil, wid_cons, rcv_c, putv_I, putv_L, List.length_cons, List.length_nil, List.set_cons_zero, List.set_cons_succ, not_false_eq_true, Nat.reduceMod, Nat.reduceDiv, Nat.reduceEqDiff, Nat.reduceLT, Nat.reduceLeDiff, Nat.reduceAdd, Nat.reduceSub, reduceIte, Nat.lt_irrefl, Nat.zero_ne_one, Nat.one_ne_zero, Nat.zero_add, List.nil_append, List.cons_append, Option.toList_some, Option.toList_none, forall_const, false_implies, true_implies, false_or, or_false, true_or, or_true, i_le, i_lt, i_eq, i_eq0, i_lt0, i_0le, i_0lt, i_le0, i_in1, i_cl, nI_add, pk_mul, pk_sub, i_div, i_rem, i_sh1, i_bit, i_or, i_and, i_andn, nt_le, nf_le, nt_lt, nf_lt, nt_eq, nf_eq, not_true_eq_false, and_self, and_false, false_and, eq_self, Bool.toNat_true, Bool.toNat_false, i_bool, i_bool1, Bool.false_eq_true, Bool.true_eq_false, reduceCtorEq, i_neg1, i_neg2, i_neg3, i_neg4, i_neg5, i_neg6, i_neg7, i_neg8, i_neg9, i_nega, i_negb, i_negc, i_max2, i_min2, hv, wi_nil]
      repeat (
        first
        | refine s_X9_odds_0 ?_
        | refine s_X9_odds_7 ?_
        | refine s_X9_odds_17 ?_
        | refine s_X9_odds_24 ?_
        | refine s_X9_odds_25 ?_
        | refine s_X9_odds_28 ?_
        | refine s_X9_odds_35 ?_
        | refine s_X9_odds_44 ?_
        | refine s_X9_odds_62 ?_
        | refine s_X9_odds_79 ?_
        | refine s_X9_odds_104 ?_
        | refine s_X9_odds_132 ?_
        | refine s_X9_odds_139 ?_
        | refine s_X9_odds_146 ?_
        | refine s_X9_odds_157 ?_
        | refine s_X9_odds_159 ?_
        | refine s_X9_odds_168 ?_
        | refine s_X9_odds_175 ?_
        | refine s_X9_odds_181 ?_
        | refine s_X9_odds_189 ?_
        simp (disch := omega) only [B_X9_odds_0, wi_aload_n, wi_iload_n, wi_iconst, wi_invokestatic, B_X9_odds_7, wi_if_eq, wi_bipush, B_X9_odds_17, wi_goto, B_X9_odds_24, B_X9_odds_25, wi_invokevirtual, cnt_8, B_X9_odds_28, wi_istore_n, wi_if_ge, wi_ireturn, B_X9_odds_35, wi_getfield, fldv_8_20, fds_8_20, B_X9_odds_44, wi_istore, wi_lconst, wi_lstore, B_X9_odds_55, wi_iload, B_X9_odds_62, wi_icmp_ge, wi_lload, wi_ldc2_w, wi_lmul, wi_iinc, B_X9_odds_79, B_X9_odds_82, wi_icmp_gt, wi_ixor, wi_iand, wi_if_ne, B_X9_odds_104, wi_icmp_lt, B_X9_odds_114, fldv_8_10, fds_8_10, B_X9_odds_132, B_X9_odds_139, B_X9_odds_146, wi_isub, wi_i2l, B_X9_odds_157, B_X9_odds_159, B_X9_odds_168, wi_ladd, B_X9_odds_175, B_X9_odds_181, B_X9_odds_189, no0, no1, nz1, nz2, nz3, nz4, nz5, nz7, nz8, Classical.not_not, bz0, bz1, wi_nil, ld_0, ld_s, isIv_I, isLv_L, isRv_R, true_and, and_true, lset_0, lset_1, lset_s, avw_I, avw_L, avw_R, clr_cons, clr_nil, kst_0, kst_1, kstL_0, kstL_1, addk_I, pA_0, pA_s, pD_0, pD_s, wid_nil, wid_cons, rcv_c, putv_I, putv_L, List.length_cons, List.length_nil, List.set_cons_zero, List.set_cons_succ, not_false_eq_true, Nat.reduceMod, Nat.reduceDiv, Nat.reduceEqDiff, Nat.reduceLT, Nat.reduceLeDiff, Nat.reduceAdd, Nat.reduceSub, reduceIte, Nat.lt_irrefl, Nat.zero_ne_one, Nat.one_ne_zero, Nat.zero_add, List.nil_append, List.cons_append, Option.toList_some, Option.toList_none, forall_const, false_implies, true_implies, false_or, or_false, true_or, or_true, i_le, i_lt, i_eq, i_eq0, i_lt0, i_0le, i_0lt, i_le0, i_in1, i_cl, nI_add, pk_mul, pk_sub, i_div, i_rem, i_sh1, i_bit, i_or, i_and, i_andn, nt_le, nf_le, nt_lt, nf_lt, nt_eq, nf_eq, not_true_eq_false, and_self, and_false, false_and, eq_self, Bool.toNat_true, Bool.toNat_false, i_bool, i_bool1, Bool.false_eq_true, Bool.true_eq_false, reduceCtorEq, i_neg1, i_neg2, i_neg3, i_neg4, i_neg5, i_neg6, i_neg7, i_neg8, i_neg9, i_nega, i_negb, i_negc, i_max2, i_min2, hv])
      refine c_need0 hm hn5 ?_
      try simp (disch := omega) only [no0, no1, nz1, nz2, nz3, nz4, nz5, nz7, nz8, Classical.not_not, bz0, bz1, wi_nil, ld_0, ld_s, isIv_I, isLv_L, isRv_R, true_and, and_true, lset_0, lset_1, lset_s, avw_I, avw_L, avw_R, clr_cons, clr_nil, kst_0, kst_1, kstL_0, kstL_1, addk_I, pA_0, pA_s, pD_0, pD_s, wid_nil, wid_cons, rcv_c, putv_I, putv_L, List.length_cons, List.length_nil, List.set_cons_zero, List.set_cons_succ, not_false_eq_true, Nat.reduceMod, Nat.reduceDiv, Nat.reduceEqDiff, Nat.reduceLT, Nat.reduceLeDiff, Nat.reduceAdd, Nat.reduceSub, reduceIte, Nat.lt_irrefl, Nat.zero_ne_one, Nat.one_ne_zero, Nat.zero_add, List.nil_append, List.cons_append, Option.toList_some, Option.toList_none, forall_const, false_implies, true_implies, false_or, or_false, true_or, or_true, i_le, i_lt, i_eq, i_eq0, i_lt0, i_0le, i_0lt, i_le0, i_in1, i_cl, nI_add, pk_mul, pk_sub, i_div, i_rem, i_sh1, i_bit, i_or, i_and, i_andn, nt_le, nf_le, nt_lt, nf_lt, nt_eq, nf_eq, not_true_eq_false, and_self, and_false, false_and, eq_self, Bool.toNat_true, Bool.toNat_false, i_bool, i_bool1, Bool.false_eq_true, Bool.true_eq_false, reduceCtorEq, i_neg1, i_neg2, i_neg3, i_neg4, i_neg5, i_neg6, i_neg7, i_neg8, i_neg9, i_nega, i_negb, i_negc, i_max2, i_min2, wi_nil]
      repeat (
        first
        | refine s_X9_odds_0 ?_
        | refine s_X9_odds_7 ?_
        | refine s_X9_odds_17 ?_
        | refine s_X9_odds_24 ?_
        | refine s_X9_odds_25 ?_
        | refine s_X9_odds_28 ?_
        | refine s_X9_odds_35 ?_
        | refine s_X9_odds_44 ?_
        | refine s_X9_odds_62 ?_
        | refine s_X9_odds_79 ?_
        | refine s_X9_odds_104 ?_
        | refine s_X9_odds_132 ?_
        | refine s_X9_odds_139 ?_
        | refine s_X9_odds_146 ?_
        | refine s_X9_odds_157 ?_
        | refine s_X9_odds_159 ?_
        | refine s_X9_odds_168 ?_
        | refine s_X9_odds_175 ?_
        | refine s_X9_odds_181 ?_
        | refine s_X9_odds_189 ?_
        simp (disch := omega) only [B_X9_odds_0, wi_aload_n, wi_iload_n, wi_iconst, wi_invokestatic, B_X9_odds_7, wi_if_eq, wi_bipush, B_X9_odds_17, wi_goto, B_X9_odds_24, B_X9_odds_25, wi_invokevirtual, cnt_8, B_X9_odds_28, wi_istore_n, wi_if_ge, wi_ireturn, B_X9_odds_35, wi_getfield, fldv_8_20, fds_8_20, B_X9_odds_44, wi_istore, wi_lconst, wi_lstore, B_X9_odds_55, wi_iload, B_X9_odds_62, wi_icmp_ge, wi_lload, wi_ldc2_w, wi_lmul, wi_iinc, B_X9_odds_79, B_X9_odds_82, wi_icmp_gt, wi_ixor, wi_iand, wi_if_ne, B_X9_odds_104, wi_icmp_lt, B_X9_odds_114, fldv_8_10, fds_8_10, B_X9_odds_132, B_X9_odds_139, B_X9_odds_146, wi_isub, wi_i2l, B_X9_odds_157, B_X9_odds_159, B_X9_odds_168, wi_ladd, B_X9_odds_175, B_X9_odds_181, B_X9_odds_189, no0, no1, nz1, nz2, nz3, nz4, nz5, nz7, nz8, Classical.not_not, bz0, bz1, wi_nil, ld_0, ld_s, isIv_I, isLv_L, isRv_R, true_and, and_true, lset_0, lset_1, lset_s, avw_I, avw_L, avw_R, clr_cons, clr_nil, kst_0, kst_1, kstL_0, kstL_1, addk_I, pA_0, pA_s, pD_0, pD_s, wid_nil, wid_cons, rcv_c, putv_I, putv_L, List.length_cons, List.length_nil, List.set_cons_zero, List.set_cons_succ, not_false_eq_true, Nat.reduceMod, Nat.reduceDiv, Nat.reduceEqDiff, Nat.reduceLT, Nat.reduceLeDiff, Nat.reduceAdd, Nat.reduceSub, reduceIte, Nat.lt_irrefl, Nat.zero_ne_one, Nat.one_ne_zero, Nat.zero_add, List.nil_append, List.cons_append, Option.toList_some, Option.toList_none, forall_const, false_implies, true_implies, false_or, or_false, true_or, or_true, i_le, i_lt, i_eq, i_eq0, i_lt0, i_0le, i_0lt, i_le0, i_in1, i_cl, nI_add, pk_mul, pk_sub, i_div, i_rem, i_sh1, i_bit, i_or, i_and, i_andn, nt_le, nf_le, nt_lt, nf_lt, nt_eq, nf_eq, not_true_eq_false, and_self, and_false, false_and, eq_self, Bool.toNat_true, Bool.toNat_false, i_bool, i_bool1, Bool.false_eq_true, Bool.true_eq_false, reduceCtorEq, i_neg1, i_neg2, i_neg3, i_neg4, i_neg5, i_neg6, i_neg7, i_neg8, i_neg9, i_nega, i_negb, i_negc, i_max2, i_min2])
      exact pm h
    rcases off_gt (N := 5) (by decide) hv with a | ⟨a, -, b⟩
    · refine x_entry (ls2 := [aR 7 0, aI v, aI p, aU, aU, aU, aU, aU]) (Nat.le_of_ble_eq_true rfl) pl_8 rfl (Nat.le_of_ble_eq_true rfl) ?_
      try simp (disch := omega) only [no0, no1, nz1, nz2, nz3, nz4, nz5, nz7, nz8, Classical.not_not, bz0, bz1, wi_nil, ld_0, ld_s, isIv_I, isLv_L, isRv_R, true_and, and_true, lset_0, lset_1, lset_s, avw_I, avw_L, avw_R, clr_cons, clr_nil, kst_0, kst_1, kstL_0, kstL_1, addk_I, pA_0, pA_s, pD_0, pD_s, wid_nil, wid_cons, rcv_c, putv_I, putv_L, List.length_cons, List.length_nil, List.set_cons_zero, List.set_cons_succ, not_false_eq_true, Nat.reduceMod, Nat.reduceDiv, Nat.reduceEqDiff, Nat.reduceLT, Nat.reduceLeDiff, Nat.reduceAdd, Nat.reduceSub, reduceIte, Nat.lt_irrefl, Nat.zero_ne_one, Nat.one_ne_zero, Nat.zero_add, List.nil_append, List.cons_append, Option.toList_some, Option.toList_none, forall_const, false_implies, true_implies, false_or, or_false, true_or, or_true, i_le, i_lt, i_eq, i_eq0, i_lt0, i_0le, i_0lt, i_le0, i_in1, i_cl, nI_add, pk_mul, pk_sub, i_div, i_rem, i_sh1, i_bit, i_or, i_and, i_andn, nt_le, nf_le, nt_lt, nf_lt, nt_eq, nf_eq, not_true_eq_false, and_self, and_false, false_and, eq_self, Bool.toNat_true, Bool.toNat_false, i_bool, i_bool1, Bool.false_eq_true, Bool.true_eq_false, reduceCtorEq, i_neg1, i_neg2, i_neg3, i_neg4, i_neg5, i_neg6, i_neg7, i_neg8, i_neg9, i_nega, i_negb, i_negc, i_max2, i_min2, a, wi_nil]
      repeat (
        first
        | refine s_X8_odds_0 ?_
        | refine s_X8_odds_19 ?_
        | refine s_X8_odds_21 ?_
        | refine s_X8_odds_34 ?_
        | refine s_X8_odds_42 ?_
        | refine s_X8_odds_45 ?_
        | refine s_X8_odds_65 ?_
        | refine s_X8_odds_84 ?_
        | refine s_X8_odds_92 ?_
        | refine s_X8_odds_96 ?_
        | refine s_X8_odds_102 ?_
        | refine s_X8_odds_114 ?_
        | refine s_X8_odds_117 ?_
        simp (disch := omega) only [B_X8_odds_0, wi_iload_n, wi_if_lt, wi_iconst, wi_icmp_gt, wi_bipush, wi_icmp_le, B_X8_odds_19, wi_ireturn, B_X8_odds_21, wi_aload_n, wi_getfield, fldv_7_3, fds_7_3, cnt_7, fldv_6_7, fds_6_7, cnt_6, wi_if_ne, B_X8_odds_34, wi_invokevirtual, B_X8_odds_42, wi_invokestatic, B_X8_odds_45, wi_istore_n, wi_lconst, wi_lstore, wi_istore, B_X8_odds_52, wi_iload, wi_ishl, wi_icmp_ge, B_X8_odds_65, wi_icmp_lt, wi_lload, wi_isub, B_X8_odds_84, B_X8_odds_92, wi_lmul, wi_ladd, B_X8_odds_96, wi_iinc, wi_goto, B_X8_odds_102, fldv_7_8, fds_7_8, B_X8_odds_114, cnt_4, B_X8_odds_117, no0, no1, nz1, nz2, nz3, nz4, nz5, nz7, nz8, Classical.not_not, bz0, bz1, wi_nil, ld_0, ld_s, isIv_I, isLv_L, isRv_R, true_and, and_true, lset_0, lset_1, lset_s, avw_I, avw_L, avw_R, clr_cons, clr_nil, kst_0, kst_1, kstL_0, kstL_1, addk_I, pA_0, pA_s, pD_0, pD_s, wid_nil, wid_cons, rcv_c, putv_I, putv_L, List.length_cons, List.length_nil, List.set_cons_zero, List.set_cons_succ, not_false_eq_true, Nat.reduceMod, Nat.reduceDiv, Nat.reduceEqDiff, Nat.reduceLT, Nat.reduceLeDiff, Nat.reduceAdd, Nat.reduceSub, reduceIte, Nat.lt_irrefl, Nat.zero_ne_one, Nat.one_ne_zero, Nat.zero_add, List.nil_append, List.cons_append, Option.toList_some, Option.toList_none, forall_const, false_implies, true_implies, false_or, or_false, true_or, or_true, i_le, i_lt, i_eq, i_eq0, i_lt0, i_0le, i_0lt, i_le0, i_in1, i_cl, nI_add, pk_mul, pk_sub, i_div, i_rem, i_sh1, i_bit, i_or, i_and, i_andn, nt_le, nf_le, nt_lt, nf_lt, nt_eq, nf_eq, not_true_eq_false, and_self, and_false, false_and, eq_self, Bool.toNat_true, Bool.toNat_false, i_bool, i_bool1, Bool.false_eq_true, Bool.true_eq_false, reduceCtorEq, i_neg1, i_neg2, i_neg3, i_neg4, i_neg5, i_neg6, i_neg7, i_neg8, i_neg9, i_nega, i_negb, i_negc, i_max2, i_min2, a])
      exact px key
    · refine x_entry (ls2 := [aR 7 0, aI v, aI p, aU, aU, aU, aU, aU]) (Nat.le_of_ble_eq_true rfl) pl_8 rfl (Nat.le_of_ble_eq_true rfl) ?_
      try simp (disch := omega) only [no0, no1, nz1, nz2, nz3, nz4, nz5, nz7, nz8, Classical.not_not, bz0, bz1, wi_nil, ld_0, ld_s, isIv_I, isLv_L, isRv_R, true_and, and_true, lset_0, lset_1, lset_s, avw_I, avw_L, avw_R, clr_cons, clr_nil, kst_0, kst_1, kstL_0, kstL_1, addk_I, pA_0, pA_s, pD_0, pD_s, wid_nil, wid_cons, rcv_c, putv_I, putv_L, List.length_cons, List.length_nil, List.set_cons_zero, List.set_cons_succ, not_false_eq_true, Nat.reduceMod, Nat.reduceDiv, Nat.reduceEqDiff, Nat.reduceLT, Nat.reduceLeDiff, Nat.reduceAdd, Nat.reduceSub, reduceIte, Nat.lt_irrefl, Nat.zero_ne_one, Nat.one_ne_zero, Nat.zero_add, List.nil_append, List.cons_append, Option.toList_some, Option.toList_none, forall_const, false_implies, true_implies, false_or, or_false, true_or, or_true, i_le, i_lt, i_eq, i_eq0, i_lt0, i_0le, i_0lt, i_le0, i_in1, i_cl, nI_add, pk_mul, pk_sub, i_div, i_rem, i_sh1, i_bit, i_or, i_and, i_andn, nt_le, nf_le, nt_lt, nf_lt, nt_eq, nf_eq, not_true_eq_false, and_self, and_false, false_and, eq_self, Bool.toNat_true, Bool.toNat_false, i_bool, i_bool1, Bool.false_eq_true, Bool.true_eq_false, reduceCtorEq, i_neg1, i_neg2, i_neg3, i_neg4, i_neg5, i_neg6, i_neg7, i_neg8, i_neg9, i_nega, i_negb, i_negc, i_max2, i_min2, a, b, wi_nil]
      repeat (
        first
        | refine s_X8_odds_0 ?_
        | refine s_X8_odds_19 ?_
        | refine s_X8_odds_21 ?_
        | refine s_X8_odds_34 ?_
        | refine s_X8_odds_42 ?_
        | refine s_X8_odds_45 ?_
        | refine s_X8_odds_65 ?_
        | refine s_X8_odds_84 ?_
        | refine s_X8_odds_92 ?_
        | refine s_X8_odds_96 ?_
        | refine s_X8_odds_102 ?_
        | refine s_X8_odds_114 ?_
        | refine s_X8_odds_117 ?_
        simp (disch := omega) only [B_X8_odds_0, wi_iload_n, wi_if_lt, wi_iconst, wi_icmp_gt, wi_bipush, wi_icmp_le, B_X8_odds_19, wi_ireturn, B_X8_odds_21, wi_aload_n, wi_getfield, fldv_7_3, fds_7_3, cnt_7, fldv_6_7, fds_6_7, cnt_6, wi_if_ne, B_X8_odds_34, wi_invokevirtual, B_X8_odds_42, wi_invokestatic, B_X8_odds_45, wi_istore_n, wi_lconst, wi_lstore, wi_istore, B_X8_odds_52, wi_iload, wi_ishl, wi_icmp_ge, B_X8_odds_65, wi_icmp_lt, wi_lload, wi_isub, B_X8_odds_84, B_X8_odds_92, wi_lmul, wi_ladd, B_X8_odds_96, wi_iinc, wi_goto, B_X8_odds_102, fldv_7_8, fds_7_8, B_X8_odds_114, cnt_4, B_X8_odds_117, no0, no1, nz1, nz2, nz3, nz4, nz5, nz7, nz8, Classical.not_not, bz0, bz1, wi_nil, ld_0, ld_s, isIv_I, isLv_L, isRv_R, true_and, and_true, lset_0, lset_1, lset_s, avw_I, avw_L, avw_R, clr_cons, clr_nil, kst_0, kst_1, kstL_0, kstL_1, addk_I, pA_0, pA_s, pD_0, pD_s, wid_nil, wid_cons, rcv_c, putv_I, putv_L, List.length_cons, List.length_nil, List.set_cons_zero, List.set_cons_succ, not_false_eq_true, Nat.reduceMod, Nat.reduceDiv, Nat.reduceEqDiff, Nat.reduceLT, Nat.reduceLeDiff, Nat.reduceAdd, Nat.reduceSub, reduceIte, Nat.lt_irrefl, Nat.zero_ne_one, Nat.one_ne_zero, Nat.zero_add, List.nil_append, List.cons_append, Option.toList_some, Option.toList_none, forall_const, false_implies, true_implies, false_or, or_false, true_or, or_true, i_le, i_lt, i_eq, i_eq0, i_lt0, i_0le, i_0lt, i_le0, i_in1, i_cl, nI_add, pk_mul, pk_sub, i_div, i_rem, i_sh1, i_bit, i_or, i_and, i_andn, nt_le, nf_le, nt_lt, nf_lt, nt_eq, nf_eq, not_true_eq_false, and_self, and_false, false_and, eq_self, Bool.toNat_true, Bool.toNat_false, i_bool, i_bool1, Bool.false_eq_true, Bool.true_eq_false, reduceCtorEq, i_neg1, i_neg2, i_neg3, i_neg4, i_neg5, i_neg6, i_neg7, i_neg8, i_neg9, i_nega, i_negb, i_negc, i_max2, i_min2, a, b])
      exact px key
  · obtain ⟨v, hv2, rfl⟩ := inb_nat hv
    cases hp : inB p 13
    · have key : wpM (d + 10) mX9_odds [aR 8 0, aI (nI v), aI p] S (PM (-nI 1)) := by
        refine x_entry (ls2 := [aR 8 0, aI (nI v), aI p, aU, aU, aU, aU, aU, aU, aU, aU, aU, aU]) (Nat.le_of_ble_eq_true rfl) pl_9 rfl (Nat.le_of_ble_eq_true rfl) ?_
        try simp (disch := omega) only [no0, no1, nz1, nz2, nz3, nz4, nz5, nz7, nz8, Classical.not_not, bz0, bz1, wi_nil, ld_0, ld_s, isIv_I, isLv_L, isRv_R, true_and, and_true, lset_0, lset_1, lset_s, avw_I, avw_L, avw_R, clr_cons, clr_nil, kst_0, kst_1, kstL_0, kstL_1, addk_I, pA_0, pA_s, pD_0, pD_s, wid_nil, wid_cons, rcv_c, putv_I, putv_L, List.length_cons, List.length_nil, List.set_cons_zero, List.set_cons_succ, not_false_eq_true, Nat.reduceMod, Nat.reduceDiv, Nat.reduceEqDiff, Nat.reduceLT, Nat.reduceLeDiff, Nat.reduceAdd, Nat.reduceSub, reduceIte, Nat.lt_irrefl, Nat.zero_ne_one, Nat.one_ne_zero, Nat.zero_add, List.nil_append, List.cons_append, Option.toList_some, Option.toList_none, forall_const, false_implies, true_implies, false_or, or_false, true_or, or_true, i_le, i_lt, i_eq, i_eq0, i_lt0, i_0le, i_0lt, i_le0, i_in1, i_cl, nI_add, pk_mul, pk_sub, i_div, i_rem, i_sh1, i_bit, i_or, i_and, i_andn, nt_le, nf_le, nt_lt, nf_lt, nt_eq, nf_eq, not_true_eq_false, and_self, and_false, false_and, eq_self, Bool.toNat_true, Bool.toNat_false, i_bool, i_bool1, Bool.false_eq_true, Bool.true_eq_false, reduceCtorEq, i_neg1, i_neg2, i_neg3, i_neg4, i_neg5, i_neg6, i_neg7, i_neg8, i_neg9, i_nega, i_negb, i_negc, i_max2, i_min2, wi_nil]
        repeat (
          first
          | refine s_X9_odds_0 ?_
          | refine s_X9_odds_7 ?_
          | refine s_X9_odds_17 ?_
          | refine s_X9_odds_24 ?_
          | refine s_X9_odds_25 ?_
          | refine s_X9_odds_28 ?_
          | refine s_X9_odds_35 ?_
          | refine s_X9_odds_44 ?_
          | refine s_X9_odds_62 ?_
          | refine s_X9_odds_79 ?_
          | refine s_X9_odds_104 ?_
          | refine s_X9_odds_132 ?_
          | refine s_X9_odds_139 ?_
          | refine s_X9_odds_146 ?_
          | refine s_X9_odds_157 ?_
          | refine s_X9_odds_159 ?_
          | refine s_X9_odds_168 ?_
          | refine s_X9_odds_175 ?_
          | refine s_X9_odds_181 ?_
          | refine s_X9_odds_189 ?_
          simp (disch := omega) only [B_X9_odds_0, wi_aload_n, wi_iload_n, wi_iconst, wi_invokestatic, B_X9_odds_7, wi_if_eq, wi_bipush, B_X9_odds_17, wi_goto, B_X9_odds_24, B_X9_odds_25, wi_invokevirtual, cnt_8, B_X9_odds_28, wi_istore_n, wi_if_ge, wi_ireturn, B_X9_odds_35, wi_getfield, fldv_8_20, fds_8_20, B_X9_odds_44, wi_istore, wi_lconst, wi_lstore, B_X9_odds_55, wi_iload, B_X9_odds_62, wi_icmp_ge, wi_lload, wi_ldc2_w, wi_lmul, wi_iinc, B_X9_odds_79, B_X9_odds_82, wi_icmp_gt, wi_ixor, wi_iand, wi_if_ne, B_X9_odds_104, wi_icmp_lt, B_X9_odds_114, fldv_8_10, fds_8_10, B_X9_odds_132, B_X9_odds_139, B_X9_odds_146, wi_isub, wi_i2l, B_X9_odds_157, B_X9_odds_159, B_X9_odds_168, wi_ladd, B_X9_odds_175, B_X9_odds_181, B_X9_odds_189, no0, no1, nz1, nz2, nz3, nz4, nz5, nz7, nz8, Classical.not_not, bz0, bz1, wi_nil, ld_0, ld_s, isIv_I, isLv_L, isRv_R, true_and, and_true, lset_0, lset_1, lset_s, avw_I, avw_L, avw_R, clr_cons, clr_nil, kst_0, kst_1, kstL_0, kstL_1, addk_I, pA_0, pA_s, pD_0, pD_s, wid_nil, wid_cons, rcv_c, putv_I, putv_L, List.length_cons, List.length_nil, List.set_cons_zero, List.set_cons_succ, not_false_eq_true, Nat.reduceMod, Nat.reduceDiv, Nat.reduceEqDiff, Nat.reduceLT, Nat.reduceLeDiff, Nat.reduceAdd, Nat.reduceSub, reduceIte, Nat.lt_irrefl, Nat.zero_ne_one, Nat.one_ne_zero, Nat.zero_add, List.nil_append, List.cons_append, Option.toList_some, Option.toList_none, forall_const, false_implies, true_implies, false_or, or_false, true_or, or_true, i_le, i_lt, i_eq, i_eq0, i_lt0, i_0le, i_0lt, i_le0, i_in1, i_cl, nI_add, pk_mul, pk_sub, i_div, i_rem, i_sh1, i_bit, i_or, i_and, i_andn, nt_le, nf_le, nt_lt, nf_lt, nt_eq, nf_eq, not_true_eq_false, and_self, and_false, false_and, eq_self, Bool.toNat_true, Bool.toNat_false, i_bool, i_bool1, Bool.false_eq_true, Bool.true_eq_false, reduceCtorEq, i_neg1, i_neg2, i_neg3, i_neg4, i_neg5, i_neg6, i_neg7, i_neg8, i_neg9, i_nega, i_negb, i_negc, i_max2, i_min2])
        refine c_in (inb_le (N := 5) (by decide)) ?_
        try simp (disch := omega) only [no0, no1, nz1, nz2, nz3, nz4, nz5, nz7, nz8, Classical.not_not, bz0, bz1, wi_nil, ld_0, ld_s, isIv_I, isLv_L, isRv_R, true_and, and_true, lset_0, lset_1, lset_s, avw_I, avw_L, avw_R, clr_cons, clr_nil, kst_0, kst_1, kstL_0, kstL_1, addk_I, pA_0, pA_s, pD_0, pD_s, wid_nil, wid_cons, rcv_c, putv_I, putv_L, List.length_cons, List.length_nil, List.set_cons_zero, List.set_cons_succ, not_false_eq_true, Nat.reduceMod, Nat.reduceDiv, Nat.reduceEqDiff, Nat.reduceLT, Nat.reduceLeDiff, Nat.reduceAdd, Nat.reduceSub, reduceIte, Nat.lt_irrefl, Nat.zero_ne_one, Nat.one_ne_zero, Nat.zero_add, List.nil_append, List.cons_append, Option.toList_some, Option.toList_none, forall_const, false_implies, true_implies, false_or, or_false, true_or, or_true, i_le, i_lt, i_eq, i_eq0, i_lt0, i_0le, i_0lt, i_le0, i_in1, i_cl, nI_add, pk_mul, pk_sub, i_div, i_rem, i_sh1, i_bit, i_or, i_and, i_andn, nt_le, nf_le, nt_lt, nf_lt, nt_eq, nf_eq, not_true_eq_false, and_self, and_false, false_and, eq_self, Bool.toNat_true, Bool.toNat_false, i_bool, i_bool1, Bool.false_eq_true, Bool.true_eq_false, reduceCtorEq, i_neg1, i_neg2, i_neg3, i_neg4, i_neg5, i_neg6, i_neg7, i_neg8, i_neg9, i_nega, i_negb, i_negc, i_max2, i_min2, hv, wi_nil]
        repeat (
          first
          | refine s_X9_odds_0 ?_
          | refine s_X9_odds_7 ?_
          | refine s_X9_odds_17 ?_
          | refine s_X9_odds_24 ?_
          | refine s_X9_odds_25 ?_
          | refine s_X9_odds_28 ?_
          | refine s_X9_odds_35 ?_
          | refine s_X9_odds_44 ?_
          | refine s_X9_odds_62 ?_
          | refine s_X9_odds_79 ?_
          | refine s_X9_odds_104 ?_
          | refine s_X9_odds_132 ?_
          | refine s_X9_odds_139 ?_
          | refine s_X9_odds_146 ?_
          | refine s_X9_odds_157 ?_
          | refine s_X9_odds_159 ?_
          | refine s_X9_odds_168 ?_
          | refine s_X9_odds_175 ?_
          | refine s_X9_odds_181 ?_
          | refine s_X9_odds_189 ?_
          simp (disch := omega) only [B_X9_odds_0, wi_aload_n, wi_iload_n, wi_iconst, wi_invokestatic, B_X9_odds_7, wi_if_eq, wi_bipush, B_X9_odds_17, wi_goto, B_X9_odds_24, B_X9_odds_25, wi_invokevirtual, cnt_8, B_X9_odds_28, wi_istore_n, wi_if_ge, wi_ireturn, B_X9_odds_35, wi_getfield, fldv_8_20, fds_8_20, B_X9_odds_44, wi_istore, wi_lconst, wi_lstore, B_X9_odds_55, wi_iload, B_X9_odds_62, wi_icmp_ge, wi_lload, wi_ldc2_w, wi_lmul, wi_iinc, B_X9_odds_79, B_X9_odds_82, wi_icmp_gt, wi_ixor, wi_iand, wi_if_ne, B_X9_odds_104, wi_icmp_lt, B_X9_odds_114, fldv_8_10, fds_8_10, B_X9_odds_132, B_X9_odds_139, B_X9_odds_146, wi_isub, wi_i2l, B_X9_odds_157, B_X9_odds_159, B_X9_odds_168, wi_ladd, B_X9_odds_175, B_X9_odds_181, B_X9_odds_189, no0, no1, nz1, nz2, nz3, nz4, nz5, nz7, nz8, Classical.not_not, bz0, bz1, wi_nil, ld_0, ld_s, isIv_I, isLv_L, isRv_R, true_and, and_true, lset_0, lset_1, lset_s, avw_I, avw_L, avw_R, clr_cons, clr_nil, kst_0, kst_1, kstL_0, kstL_1, addk_I, pA_0, pA_s, pD_0, pD_s, wid_nil, wid_cons, rcv_c, putv_I, putv_L, List.length_cons, List.length_nil, List.set_cons_zero, List.set_cons_succ, not_false_eq_true, Nat.reduceMod, Nat.reduceDiv, Nat.reduceEqDiff, Nat.reduceLT, Nat.reduceLeDiff, Nat.reduceAdd, Nat.reduceSub, reduceIte, Nat.lt_irrefl, Nat.zero_ne_one, Nat.one_ne_zero, Nat.zero_add, List.nil_append, List.cons_append, Option.toList_some, Option.toList_none, forall_const, false_implies, true_implies, false_or, or_false, true_or, or_true, i_le, i_lt, i_eq, i_eq0, i_lt0, i_0le, i_0lt, i_le0, i_in1, i_cl, nI_add, pk_mul, pk_sub, i_div, i_rem, i_sh1, i_bit, i_or, i_and, i_andn, nt_le, nf_le, nt_lt, nf_lt, nt_eq, nf_eq, not_true_eq_false, and_self, and_false, false_and, eq_self, Bool.toNat_true, Bool.toNat_false, i_bool, i_bool1, Bool.false_eq_true, Bool.true_eq_false, reduceCtorEq, i_neg1, i_neg2, i_neg3, i_neg4, i_neg5, i_neg6, i_neg7, i_neg8, i_neg9, i_nega, i_negb, i_negc, i_max2, i_min2, hv])
        refine c_in (inb_le (N := 12) (by decide)) ?_
        try simp (disch := omega) only [no0, no1, nz1, nz2, nz3, nz4, nz5, nz7, nz8, Classical.not_not, bz0, bz1, wi_nil, ld_0, ld_s, isIv_I, isLv_L, isRv_R, true_and, and_true, lset_0, lset_1, lset_s, avw_I, avw_L, avw_R, clr_cons, clr_nil, kst_0, kst_1, kstL_0, kstL_1, addk_I, pA_0, pA_s, pD_0, pD_s, wid_nil, wid_cons, rcv_c, putv_I, putv_L, List.length_cons, List.length_nil, List.set_cons_zero, List.set_cons_succ, not_false_eq_true, Nat.reduceMod, Nat.reduceDiv, Nat.reduceEqDiff, Nat.reduceLT, Nat.reduceLeDiff, Nat.reduceAdd, Nat.reduceSub, reduceIte, Nat.lt_irrefl, Nat.zero_ne_one, Nat.one_ne_zero, Nat.zero_add, List.nil_append, List.cons_append, Option.toList_some, Option.toList_none, forall_const, false_implies, true_implies, false_or, or_false, true_or, or_true, i_le, i_lt, i_eq, i_eq0, i_lt0, i_0le, i_0lt, i_le0, i_in1, i_cl, nI_add, pk_mul, pk_sub, i_div, i_rem, i_sh1, i_bit, i_or, i_and, i_andn, nt_le, nf_le, nt_lt, nf_lt, nt_eq, nf_eq, not_true_eq_false, and_self, and_false, false_and, eq_self, Bool.toNat_true, Bool.toNat_false, i_bool, i_bool1, Bool.false_eq_true, Bool.true_eq_false, reduceCtorEq, i_neg1, i_neg2, i_neg3, i_neg4, i_neg5, i_neg6, i_neg7, i_neg8, i_neg9, i_nega, i_negb, i_negc, i_max2, i_min2, hp, wi_nil]
        repeat (
          first
          | refine s_X9_odds_0 ?_
          | refine s_X9_odds_7 ?_
          | refine s_X9_odds_17 ?_
          | refine s_X9_odds_24 ?_
          | refine s_X9_odds_25 ?_
          | refine s_X9_odds_28 ?_
          | refine s_X9_odds_35 ?_
          | refine s_X9_odds_44 ?_
          | refine s_X9_odds_62 ?_
          | refine s_X9_odds_79 ?_
          | refine s_X9_odds_104 ?_
          | refine s_X9_odds_132 ?_
          | refine s_X9_odds_139 ?_
          | refine s_X9_odds_146 ?_
          | refine s_X9_odds_157 ?_
          | refine s_X9_odds_159 ?_
          | refine s_X9_odds_168 ?_
          | refine s_X9_odds_175 ?_
          | refine s_X9_odds_181 ?_
          | refine s_X9_odds_189 ?_
          simp (disch := omega) only [B_X9_odds_0, wi_aload_n, wi_iload_n, wi_iconst, wi_invokestatic, B_X9_odds_7, wi_if_eq, wi_bipush, B_X9_odds_17, wi_goto, B_X9_odds_24, B_X9_odds_25, wi_invokevirtual, cnt_8, B_X9_odds_28, wi_istore_n, wi_if_ge, wi_ireturn, B_X9_odds_35, wi_getfield, fldv_8_20, fds_8_20, B_X9_odds_44, wi_istore, wi_lconst, wi_lstore, B_X9_odds_55, wi_iload, B_X9_odds_62, wi_icmp_ge, wi_lload, wi_ldc2_w, wi_lmul, wi_iinc, B_X9_odds_79, B_X9_odds_82, wi_icmp_gt, wi_ixor, wi_iand, wi_if_ne, B_X9_odds_104, wi_icmp_lt, B_X9_odds_114, fldv_8_10, fds_8_10, B_X9_odds_132, B_X9_odds_139, B_X9_odds_146, wi_isub, wi_i2l, B_X9_odds_157, B_X9_odds_159, B_X9_odds_168, wi_ladd, B_X9_odds_175, B_X9_odds_181, B_X9_odds_189, no0, no1, nz1, nz2, nz3, nz4, nz5, nz7, nz8, Classical.not_not, bz0, bz1, wi_nil, ld_0, ld_s, isIv_I, isLv_L, isRv_R, true_and, and_true, lset_0, lset_1, lset_s, avw_I, avw_L, avw_R, clr_cons, clr_nil, kst_0, kst_1, kstL_0, kstL_1, addk_I, pA_0, pA_s, pD_0, pD_s, wid_nil, wid_cons, rcv_c, putv_I, putv_L, List.length_cons, List.length_nil, List.set_cons_zero, List.set_cons_succ, not_false_eq_true, Nat.reduceMod, Nat.reduceDiv, Nat.reduceEqDiff, Nat.reduceLT, Nat.reduceLeDiff, Nat.reduceAdd, Nat.reduceSub, reduceIte, Nat.lt_irrefl, Nat.zero_ne_one, Nat.one_ne_zero, Nat.zero_add, List.nil_append, List.cons_append, Option.toList_some, Option.toList_none, forall_const, false_implies, true_implies, false_or, or_false, true_or, or_true, i_le, i_lt, i_eq, i_eq0, i_lt0, i_0le, i_0lt, i_le0, i_in1, i_cl, nI_add, pk_mul, pk_sub, i_div, i_rem, i_sh1, i_bit, i_or, i_and, i_andn, nt_le, nf_le, nt_lt, nf_lt, nt_eq, nf_eq, not_true_eq_false, and_self, and_false, false_and, eq_self, Bool.toNat_true, Bool.toNat_false, i_bool, i_bool1, Bool.false_eq_true, Bool.true_eq_false, reduceCtorEq, i_neg1, i_neg2, i_neg3, i_neg4, i_neg5, i_neg6, i_neg7, i_neg8, i_neg9, i_nega, i_negb, i_negc, i_max2, i_min2, hp])
        refine c_need0 hm hn5 ?_
        try simp (disch := omega) only [no0, no1, nz1, nz2, nz3, nz4, nz5, nz7, nz8, Classical.not_not, bz0, bz1, wi_nil, ld_0, ld_s, isIv_I, isLv_L, isRv_R, true_and, and_true, lset_0, lset_1, lset_s, avw_I, avw_L, avw_R, clr_cons, clr_nil, kst_0, kst_1, kstL_0, kstL_1, addk_I, pA_0, pA_s, pD_0, pD_s, wid_nil, wid_cons, rcv_c, putv_I, putv_L, List.length_cons, List.length_nil, List.set_cons_zero, List.set_cons_succ, not_false_eq_true, Nat.reduceMod, Nat.reduceDiv, Nat.reduceEqDiff, Nat.reduceLT, Nat.reduceLeDiff, Nat.reduceAdd, Nat.reduceSub, reduceIte, Nat.lt_irrefl, Nat.zero_ne_one, Nat.one_ne_zero, Nat.zero_add, List.nil_append, List.cons_append, Option.toList_some, Option.toList_none, forall_const, false_implies, true_implies, false_or, or_false, true_or, or_true, i_le, i_lt, i_eq, i_eq0, i_lt0, i_0le, i_0lt, i_le0, i_in1, i_cl, nI_add, pk_mul, pk_sub, i_div, i_rem, i_sh1, i_bit, i_or, i_and, i_andn, nt_le, nf_le, nt_lt, nf_lt, nt_eq, nf_eq, not_true_eq_false, and_self, and_false, false_and, eq_self, Bool.toNat_true, Bool.toNat_false, i_bool, i_bool1, Bool.false_eq_true, Bool.true_eq_false, reduceCtorEq, i_neg1, i_neg2, i_neg3, i_neg4, i_neg5, i_neg6, i_neg7, i_neg8, i_neg9, i_nega, i_negb, i_negc, i_max2, i_min2, wi_nil]
        repeat (
          first
          | refine s_X9_odds_0 ?_
          | refine s_X9_odds_7 ?_
          | refine s_X9_odds_17 ?_
          | refine s_X9_odds_24 ?_
          | refine s_X9_odds_25 ?_
          | refine s_X9_odds_28 ?_
          | refine s_X9_odds_35 ?_
          | refine s_X9_odds_44 ?_
          | refine s_X9_odds_62 ?_
          | refine s_X9_odds_79 ?_
          | refine s_X9_odds_104 ?_
          | refine s_X9_odds_132 ?_
          | refine s_X9_odds_139 ?_
          | refine s_X9_odds_146 ?_
          | refine s_X9_odds_157 ?_
          | refine s_X9_odds_159 ?_
          | refine s_X9_odds_168 ?_
          | refine s_X9_odds_175 ?_
          | refine s_X9_odds_181 ?_
          | refine s_X9_odds_189 ?_
          simp (disch := omega) only [B_X9_odds_0, wi_aload_n, wi_iload_n, wi_iconst, wi_invokestatic, B_X9_odds_7, wi_if_eq, wi_bipush, B_X9_odds_17, wi_goto, B_X9_odds_24, B_X9_odds_25, wi_invokevirtual, cnt_8, B_X9_odds_28, wi_istore_n, wi_if_ge, wi_ireturn, B_X9_odds_35, wi_getfield, fldv_8_20, fds_8_20, B_X9_odds_44, wi_istore, wi_lconst, wi_lstore, B_X9_odds_55, wi_iload, B_X9_odds_62, wi_icmp_ge, wi_lload, wi_ldc2_w, wi_lmul, wi_iinc, B_X9_odds_79, B_X9_odds_82, wi_icmp_gt, wi_ixor, wi_iand, wi_if_ne, B_X9_odds_104, wi_icmp_lt, B_X9_odds_114, fldv_8_10, fds_8_10, B_X9_odds_132, B_X9_odds_139, B_X9_odds_146, wi_isub, wi_i2l, B_X9_odds_157, B_X9_odds_159, B_X9_odds_168, wi_ladd, B_X9_odds_175, B_X9_odds_181, B_X9_odds_189, no0, no1, nz1, nz2, nz3, nz4, nz5, nz7, nz8, Classical.not_not, bz0, bz1, wi_nil, ld_0, ld_s, isIv_I, isLv_L, isRv_R, true_and, and_true, lset_0, lset_1, lset_s, avw_I, avw_L, avw_R, clr_cons, clr_nil, kst_0, kst_1, kstL_0, kstL_1, addk_I, pA_0, pA_s, pD_0, pD_s, wid_nil, wid_cons, rcv_c, putv_I, putv_L, List.length_cons, List.length_nil, List.set_cons_zero, List.set_cons_succ, not_false_eq_true, Nat.reduceMod, Nat.reduceDiv, Nat.reduceEqDiff, Nat.reduceLT, Nat.reduceLeDiff, Nat.reduceAdd, Nat.reduceSub, reduceIte, Nat.lt_irrefl, Nat.zero_ne_one, Nat.one_ne_zero, Nat.zero_add, List.nil_append, List.cons_append, Option.toList_some, Option.toList_none, forall_const, false_implies, true_implies, false_or, or_false, true_or, or_true, i_le, i_lt, i_eq, i_eq0, i_lt0, i_0le, i_0lt, i_le0, i_in1, i_cl, nI_add, pk_mul, pk_sub, i_div, i_rem, i_sh1, i_bit, i_or, i_and, i_andn, nt_le, nf_le, nt_lt, nf_lt, nt_eq, nf_eq, not_true_eq_false, and_self, and_false, false_and, eq_self, Bool.toNat_true, Bool.toNat_false, i_bool, i_bool1, Bool.false_eq_true, Bool.true_eq_false, reduceCtorEq, i_neg1, i_neg2, i_neg3, i_neg4, i_neg5, i_neg6, i_neg7, i_neg8, i_neg9, i_nega, i_negb, i_negc, i_max2, i_min2])
        exact pm h
      rcases off_gt (N := 12) (by decide) hp with a | ⟨a, b, -⟩
      · refine x_entry (ls2 := [aR 7 0, aI (nI v), aI p, aU, aU, aU, aU, aU]) (Nat.le_of_ble_eq_true rfl) pl_8 rfl (Nat.le_of_ble_eq_true rfl) ?_
        try simp (disch := omega) only [no0, no1, nz1, nz2, nz3, nz4, nz5, nz7, nz8, Classical.not_not, bz0, bz1, wi_nil, ld_0, ld_s, isIv_I, isLv_L, isRv_R, true_and, and_true, lset_0, lset_1, lset_s, avw_I, avw_L, avw_R, clr_cons, clr_nil, kst_0, kst_1, kstL_0, kstL_1, addk_I, pA_0, pA_s, pD_0, pD_s, wid_nil, wid_cons, rcv_c, putv_I, putv_L, List.length_cons, List.length_nil, List.set_cons_zero, List.set_cons_succ, not_false_eq_true, Nat.reduceMod, Nat.reduceDiv, Nat.reduceEqDiff, Nat.reduceLT, Nat.reduceLeDiff, Nat.reduceAdd, Nat.reduceSub, reduceIte, Nat.lt_irrefl, Nat.zero_ne_one, Nat.one_ne_zero, Nat.zero_add, List.nil_append, List.cons_append, Option.toList_some, Option.toList_none, forall_const, false_implies, true_implies, false_or, or_false, true_or, or_true, i_le, i_lt, i_eq, i_eq0, i_lt0, i_0le, i_0lt, i_le0, i_in1, i_cl, nI_add, pk_mul, pk_sub, i_div, i_rem, i_sh1, i_bit, i_or, i_and, i_andn, nt_le, nf_le, nt_lt, nf_lt, nt_eq, nf_eq, not_true_eq_false, and_self, and_false, false_and, eq_self, Bool.toNat_true, Bool.toNat_false, i_bool, i_bool1, Bool.false_eq_true, Bool.true_eq_false, reduceCtorEq, i_neg1, i_neg2, i_neg3, i_neg4, i_neg5, i_neg6, i_neg7, i_neg8, i_neg9, i_nega, i_negb, i_negc, i_max2, i_min2, a, wi_nil]
        repeat (
          first
          | refine s_X8_odds_0 ?_
          | refine s_X8_odds_19 ?_
          | refine s_X8_odds_21 ?_
          | refine s_X8_odds_34 ?_
          | refine s_X8_odds_42 ?_
          | refine s_X8_odds_45 ?_
          | refine s_X8_odds_65 ?_
          | refine s_X8_odds_84 ?_
          | refine s_X8_odds_92 ?_
          | refine s_X8_odds_96 ?_
          | refine s_X8_odds_102 ?_
          | refine s_X8_odds_114 ?_
          | refine s_X8_odds_117 ?_
          simp (disch := omega) only [B_X8_odds_0, wi_iload_n, wi_if_lt, wi_iconst, wi_icmp_gt, wi_bipush, wi_icmp_le, B_X8_odds_19, wi_ireturn, B_X8_odds_21, wi_aload_n, wi_getfield, fldv_7_3, fds_7_3, cnt_7, fldv_6_7, fds_6_7, cnt_6, wi_if_ne, B_X8_odds_34, wi_invokevirtual, B_X8_odds_42, wi_invokestatic, B_X8_odds_45, wi_istore_n, wi_lconst, wi_lstore, wi_istore, B_X8_odds_52, wi_iload, wi_ishl, wi_icmp_ge, B_X8_odds_65, wi_icmp_lt, wi_lload, wi_isub, B_X8_odds_84, B_X8_odds_92, wi_lmul, wi_ladd, B_X8_odds_96, wi_iinc, wi_goto, B_X8_odds_102, fldv_7_8, fds_7_8, B_X8_odds_114, cnt_4, B_X8_odds_117, no0, no1, nz1, nz2, nz3, nz4, nz5, nz7, nz8, Classical.not_not, bz0, bz1, wi_nil, ld_0, ld_s, isIv_I, isLv_L, isRv_R, true_and, and_true, lset_0, lset_1, lset_s, avw_I, avw_L, avw_R, clr_cons, clr_nil, kst_0, kst_1, kstL_0, kstL_1, addk_I, pA_0, pA_s, pD_0, pD_s, wid_nil, wid_cons, rcv_c, putv_I, putv_L, List.length_cons, List.length_nil, List.set_cons_zero, List.set_cons_succ, not_false_eq_true, Nat.reduceMod, Nat.reduceDiv, Nat.reduceEqDiff, Nat.reduceLT, Nat.reduceLeDiff, Nat.reduceAdd, Nat.reduceSub, reduceIte, Nat.lt_irrefl, Nat.zero_ne_one, Nat.one_ne_zero, Nat.zero_add, List.nil_append, List.cons_append, Option.toList_some, Option.toList_none, forall_const, false_implies, true_implies, false_or, or_false, true_or, or_true, i_le, i_lt, i_eq, i_eq0, i_lt0, i_0le, i_0lt, i_le0, i_in1, i_cl, nI_add, pk_mul, pk_sub, i_div, i_rem, i_sh1, i_bit, i_or, i_and, i_andn, nt_le, nf_le, nt_lt, nf_lt, nt_eq, nf_eq, not_true_eq_false, and_self, and_false, false_and, eq_self, Bool.toNat_true, Bool.toNat_false, i_bool, i_bool1, Bool.false_eq_true, Bool.true_eq_false, reduceCtorEq, i_neg1, i_neg2, i_neg3, i_neg4, i_neg5, i_neg6, i_neg7, i_neg8, i_neg9, i_nega, i_negb, i_negc, i_max2, i_min2, a])
        exact px key
      · refine x_entry (ls2 := [aR 7 0, aI (nI v), aI p, aU, aU, aU, aU, aU]) (Nat.le_of_ble_eq_true rfl) pl_8 rfl (Nat.le_of_ble_eq_true rfl) ?_
        try simp (disch := omega) only [no0, no1, nz1, nz2, nz3, nz4, nz5, nz7, nz8, Classical.not_not, bz0, bz1, wi_nil, ld_0, ld_s, isIv_I, isLv_L, isRv_R, true_and, and_true, lset_0, lset_1, lset_s, avw_I, avw_L, avw_R, clr_cons, clr_nil, kst_0, kst_1, kstL_0, kstL_1, addk_I, pA_0, pA_s, pD_0, pD_s, wid_nil, wid_cons, rcv_c, putv_I, putv_L, List.length_cons, List.length_nil, List.set_cons_zero, List.set_cons_succ, not_false_eq_true, Nat.reduceMod, Nat.reduceDiv, Nat.reduceEqDiff, Nat.reduceLT, Nat.reduceLeDiff, Nat.reduceAdd, Nat.reduceSub, reduceIte, Nat.lt_irrefl, Nat.zero_ne_one, Nat.one_ne_zero, Nat.zero_add, List.nil_append, List.cons_append, Option.toList_some, Option.toList_none, forall_const, false_implies, true_implies, false_or, or_false, true_or, or_true, i_le, i_lt, i_eq, i_eq0, i_lt0, i_0le, i_0lt, i_le0, i_in1, i_cl, nI_add, pk_mul, pk_sub, i_div, i_rem, i_sh1, i_bit, i_or, i_and, i_andn, nt_le, nf_le, nt_lt, nf_lt, nt_eq, nf_eq, not_true_eq_false, and_self, and_false, false_and, eq_self, Bool.toNat_true, Bool.toNat_false, i_bool, i_bool1, Bool.false_eq_true, Bool.true_eq_false, reduceCtorEq, i_neg1, i_neg2, i_neg3, i_neg4, i_neg5, i_neg6, i_neg7, i_neg8, i_neg9, i_nega, i_negb, i_negc, i_max2, i_min2, a, b, wi_nil]
        repeat (
          first
          | refine s_X8_odds_0 ?_
          | refine s_X8_odds_19 ?_
          | refine s_X8_odds_21 ?_
          | refine s_X8_odds_34 ?_
          | refine s_X8_odds_42 ?_
          | refine s_X8_odds_45 ?_
          | refine s_X8_odds_65 ?_
          | refine s_X8_odds_84 ?_
          | refine s_X8_odds_92 ?_
          | refine s_X8_odds_96 ?_
          | refine s_X8_odds_102 ?_
          | refine s_X8_odds_114 ?_
          | refine s_X8_odds_117 ?_
          simp (disch := omega) only [B_X8_odds_0, wi_iload_n, wi_if_lt, wi_iconst, wi_icmp_gt, wi_bipush, wi_icmp_le, B_X8_odds_19, wi_ireturn, B_X8_odds_21, wi_aload_n, wi_getfield, fldv_7_3, fds_7_3, cnt_7, fldv_6_7, fds_6_7, cnt_6, wi_if_ne, B_X8_odds_34, wi_invokevirtual, B_X8_odds_42, wi_invokestatic, B_X8_odds_45, wi_istore_n, wi_lconst, wi_lstore, wi_istore, B_X8_odds_52, wi_iload, wi_ishl, wi_icmp_ge, B_X8_odds_65, wi_icmp_lt, wi_lload, wi_isub, B_X8_odds_84, B_X8_odds_92, wi_lmul, wi_ladd, B_X8_odds_96, wi_iinc, wi_goto, B_X8_odds_102, fldv_7_8, fds_7_8, B_X8_odds_114, cnt_4, B_X8_odds_117, no0, no1, nz1, nz2, nz3, nz4, nz5, nz7, nz8, Classical.not_not, bz0, bz1, wi_nil, ld_0, ld_s, isIv_I, isLv_L, isRv_R, true_and, and_true, lset_0, lset_1, lset_s, avw_I, avw_L, avw_R, clr_cons, clr_nil, kst_0, kst_1, kstL_0, kstL_1, addk_I, pA_0, pA_s, pD_0, pD_s, wid_nil, wid_cons, rcv_c, putv_I, putv_L, List.length_cons, List.length_nil, List.set_cons_zero, List.set_cons_succ, not_false_eq_true, Nat.reduceMod, Nat.reduceDiv, Nat.reduceEqDiff, Nat.reduceLT, Nat.reduceLeDiff, Nat.reduceAdd, Nat.reduceSub, reduceIte, Nat.lt_irrefl, Nat.zero_ne_one, Nat.one_ne_zero, Nat.zero_add, List.nil_append, List.cons_append, Option.toList_some, Option.toList_none, forall_const, false_implies, true_implies, false_or, or_false, true_or, or_true, i_le, i_lt, i_eq, i_eq0, i_lt0, i_0le, i_0lt, i_le0, i_in1, i_cl, nI_add, pk_mul, pk_sub, i_div, i_rem, i_sh1, i_bit, i_or, i_and, i_andn, nt_le, nf_le, nt_lt, nf_lt, nt_eq, nf_eq, not_true_eq_false, and_self, and_false, false_and, eq_self, Bool.toNat_true, Bool.toNat_false, i_bool, i_bool1, Bool.false_eq_true, Bool.true_eq_false, reduceCtorEq, i_neg1, i_neg2, i_neg3, i_neg4, i_neg5, i_neg6, i_neg7, i_neg8, i_neg9, i_nega, i_negb, i_negc, i_max2, i_min2, a, b])
        exact px key
    · obtain ⟨p, hp2, rfl⟩ := inb_nat hp
      rcases Nat.eq_zero_or_pos (Y 6 0) with e0 | e0
      · refine x_entry (ls2 := [aR 7 0, aI (nI v), aI (nI p), aU, aU, aU, aU, aU]) (Nat.le_of_ble_eq_true rfl) pl_8 rfl (Nat.le_of_ble_eq_true rfl) ?_
        try simp (disch := omega) only [no0, no1, nz1, nz2, nz3, nz4, nz5, nz7, nz8, Classical.not_not, bz0, bz1, wi_nil, ld_0, ld_s, isIv_I, isLv_L, isRv_R, true_and, and_true, lset_0, lset_1, lset_s, avw_I, avw_L, avw_R, clr_cons, clr_nil, kst_0, kst_1, kstL_0, kstL_1, addk_I, pA_0, pA_s, pD_0, pD_s, wid_nil, wid_cons, rcv_c, putv_I, putv_L, List.length_cons, List.length_nil, List.set_cons_zero, List.set_cons_succ, not_false_eq_true, Nat.reduceMod, Nat.reduceDiv, Nat.reduceEqDiff, Nat.reduceLT, Nat.reduceLeDiff, Nat.reduceAdd, Nat.reduceSub, reduceIte, Nat.lt_irrefl, Nat.zero_ne_one, Nat.one_ne_zero, Nat.zero_add, List.nil_append, List.cons_append, Option.toList_some, Option.toList_none, forall_const, false_implies, true_implies, false_or, or_false, true_or, or_true, i_le, i_lt, i_eq, i_eq0, i_lt0, i_0le, i_0lt, i_le0, i_in1, i_cl, nI_add, pk_mul, pk_sub, i_div, i_rem, i_sh1, i_bit, i_or, i_and, i_andn, nt_le, nf_le, nt_lt, nf_lt, nt_eq, nf_eq, not_true_eq_false, and_self, and_false, false_and, eq_self, Bool.toNat_true, Bool.toNat_false, i_bool, i_bool1, Bool.false_eq_true, Bool.true_eq_false, reduceCtorEq, i_neg1, i_neg2, i_neg3, i_neg4, i_neg5, i_neg6, i_neg7, i_neg8, i_neg9, i_nega, i_negb, i_negc, i_max2, i_min2, (y_n hy), wi_nil]
        repeat (
          first
          | refine s_X8_odds_0 ?_
          | refine s_X8_odds_19 ?_
          | refine s_X8_odds_21 ?_
          | refine s_X8_odds_34 ?_
          | refine s_X8_odds_42 ?_
          | refine s_X8_odds_45 ?_
          | refine s_X8_odds_65 ?_
          | refine s_X8_odds_84 ?_
          | refine s_X8_odds_92 ?_
          | refine s_X8_odds_96 ?_
          | refine s_X8_odds_102 ?_
          | refine s_X8_odds_114 ?_
          | refine s_X8_odds_117 ?_
          simp (disch := omega) only [B_X8_odds_0, wi_iload_n, wi_if_lt, wi_iconst, wi_icmp_gt, wi_bipush, wi_icmp_le, B_X8_odds_19, wi_ireturn, B_X8_odds_21, wi_aload_n, wi_getfield, fldv_7_3, fds_7_3, cnt_7, fldv_6_7, fds_6_7, cnt_6, wi_if_ne, B_X8_odds_34, wi_invokevirtual, B_X8_odds_42, wi_invokestatic, B_X8_odds_45, wi_istore_n, wi_lconst, wi_lstore, wi_istore, B_X8_odds_52, wi_iload, wi_ishl, wi_icmp_ge, B_X8_odds_65, wi_icmp_lt, wi_lload, wi_isub, B_X8_odds_84, B_X8_odds_92, wi_lmul, wi_ladd, B_X8_odds_96, wi_iinc, wi_goto, B_X8_odds_102, fldv_7_8, fds_7_8, B_X8_odds_114, cnt_4, B_X8_odds_117, no0, no1, nz1, nz2, nz3, nz4, nz5, nz7, nz8, Classical.not_not, bz0, bz1, wi_nil, ld_0, ld_s, isIv_I, isLv_L, isRv_R, true_and, and_true, lset_0, lset_1, lset_s, avw_I, avw_L, avw_R, clr_cons, clr_nil, kst_0, kst_1, kstL_0, kstL_1, addk_I, pA_0, pA_s, pD_0, pD_s, wid_nil, wid_cons, rcv_c, putv_I, putv_L, List.length_cons, List.length_nil, List.set_cons_zero, List.set_cons_succ, not_false_eq_true, Nat.reduceMod, Nat.reduceDiv, Nat.reduceEqDiff, Nat.reduceLT, Nat.reduceLeDiff, Nat.reduceAdd, Nat.reduceSub, reduceIte, Nat.lt_irrefl, Nat.zero_ne_one, Nat.one_ne_zero, Nat.zero_add, List.nil_append, List.cons_append, Option.toList_some, Option.toList_none, forall_const, false_implies, true_implies, false_or, or_false, true_or, or_true, i_le, i_lt, i_eq, i_eq0, i_lt0, i_0le, i_0lt, i_le0, i_in1, i_cl, nI_add, pk_mul, pk_sub, i_div, i_rem, i_sh1, i_bit, i_or, i_and, i_andn, nt_le, nf_le, nt_lt, nf_lt, nt_eq, nf_eq, not_true_eq_false, and_self, and_false, false_and, eq_self, Bool.toNat_true, Bool.toNat_false, i_bool, i_bool1, Bool.false_eq_true, Bool.true_eq_false, reduceCtorEq, i_neg1, i_neg2, i_neg3, i_neg4, i_neg5, i_neg6, i_neg7, i_neg8, i_neg9, i_nega, i_negb, i_negc, i_max2, i_min2, (y_n hy)])
        refine px ?_
        refine x_entry (ls2 := [aR 8 0, aI (nI v), aI (nI p), aU, aU, aU, aU, aU, aU, aU, aU, aU, aU]) (Nat.le_of_ble_eq_true rfl) pl_9 rfl (Nat.le_of_ble_eq_true rfl) ?_
        try simp (disch := omega) only [no0, no1, nz1, nz2, nz3, nz4, nz5, nz7, nz8, Classical.not_not, bz0, bz1, wi_nil, ld_0, ld_s, isIv_I, isLv_L, isRv_R, true_and, and_true, lset_0, lset_1, lset_s, avw_I, avw_L, avw_R, clr_cons, clr_nil, kst_0, kst_1, kstL_0, kstL_1, addk_I, pA_0, pA_s, pD_0, pD_s, wid_nil, wid_cons, rcv_c, putv_I, putv_L, List.length_cons, List.length_nil, List.set_cons_zero, List.set_cons_succ, not_false_eq_true, Nat.reduceMod, Nat.reduceDiv, Nat.reduceEqDiff, Nat.reduceLT, Nat.reduceLeDiff, Nat.reduceAdd, Nat.reduceSub, reduceIte, Nat.lt_irrefl, Nat.zero_ne_one, Nat.one_ne_zero, Nat.zero_add, List.nil_append, List.cons_append, Option.toList_some, Option.toList_none, forall_const, false_implies, true_implies, false_or, or_false, true_or, or_true, i_le, i_lt, i_eq, i_eq0, i_lt0, i_0le, i_0lt, i_le0, i_in1, i_cl, nI_add, pk_mul, pk_sub, i_div, i_rem, i_sh1, i_bit, i_or, i_and, i_andn, nt_le, nf_le, nt_lt, nf_lt, nt_eq, nf_eq, not_true_eq_false, and_self, and_false, false_and, eq_self, Bool.toNat_true, Bool.toNat_false, i_bool, i_bool1, Bool.false_eq_true, Bool.true_eq_false, reduceCtorEq, i_neg1, i_neg2, i_neg3, i_neg4, i_neg5, i_neg6, i_neg7, i_neg8, i_neg9, i_nega, i_negb, i_negc, i_max2, i_min2, wi_nil]
        repeat (
          first
          | refine s_X9_odds_0 ?_
          | refine s_X9_odds_7 ?_
          | refine s_X9_odds_17 ?_
          | refine s_X9_odds_24 ?_
          | refine s_X9_odds_25 ?_
          | refine s_X9_odds_28 ?_
          | refine s_X9_odds_35 ?_
          | refine s_X9_odds_44 ?_
          | refine s_X9_odds_62 ?_
          | refine s_X9_odds_79 ?_
          | refine s_X9_odds_104 ?_
          | refine s_X9_odds_132 ?_
          | refine s_X9_odds_139 ?_
          | refine s_X9_odds_146 ?_
          | refine s_X9_odds_157 ?_
          | refine s_X9_odds_159 ?_
          | refine s_X9_odds_168 ?_
          | refine s_X9_odds_175 ?_
          | refine s_X9_odds_181 ?_
          | refine s_X9_odds_189 ?_
          simp (disch := omega) only [B_X9_odds_0, wi_aload_n, wi_iload_n, wi_iconst, wi_invokestatic, B_X9_odds_7, wi_if_eq, wi_bipush, B_X9_odds_17, wi_goto, B_X9_odds_24, B_X9_odds_25, wi_invokevirtual, cnt_8, B_X9_odds_28, wi_istore_n, wi_if_ge, wi_ireturn, B_X9_odds_35, wi_getfield, fldv_8_20, fds_8_20, B_X9_odds_44, wi_istore, wi_lconst, wi_lstore, B_X9_odds_55, wi_iload, B_X9_odds_62, wi_icmp_ge, wi_lload, wi_ldc2_w, wi_lmul, wi_iinc, B_X9_odds_79, B_X9_odds_82, wi_icmp_gt, wi_ixor, wi_iand, wi_if_ne, B_X9_odds_104, wi_icmp_lt, B_X9_odds_114, fldv_8_10, fds_8_10, B_X9_odds_132, B_X9_odds_139, B_X9_odds_146, wi_isub, wi_i2l, B_X9_odds_157, B_X9_odds_159, B_X9_odds_168, wi_ladd, B_X9_odds_175, B_X9_odds_181, B_X9_odds_189, no0, no1, nz1, nz2, nz3, nz4, nz5, nz7, nz8, Classical.not_not, bz0, bz1, wi_nil, ld_0, ld_s, isIv_I, isLv_L, isRv_R, true_and, and_true, lset_0, lset_1, lset_s, avw_I, avw_L, avw_R, clr_cons, clr_nil, kst_0, kst_1, kstL_0, kstL_1, addk_I, pA_0, pA_s, pD_0, pD_s, wid_nil, wid_cons, rcv_c, putv_I, putv_L, List.length_cons, List.length_nil, List.set_cons_zero, List.set_cons_succ, not_false_eq_true, Nat.reduceMod, Nat.reduceDiv, Nat.reduceEqDiff, Nat.reduceLT, Nat.reduceLeDiff, Nat.reduceAdd, Nat.reduceSub, reduceIte, Nat.lt_irrefl, Nat.zero_ne_one, Nat.one_ne_zero, Nat.zero_add, List.nil_append, List.cons_append, Option.toList_some, Option.toList_none, forall_const, false_implies, true_implies, false_or, or_false, true_or, or_true, i_le, i_lt, i_eq, i_eq0, i_lt0, i_0le, i_0lt, i_le0, i_in1, i_cl, nI_add, pk_mul, pk_sub, i_div, i_rem, i_sh1, i_bit, i_or, i_and, i_andn, nt_le, nf_le, nt_lt, nf_lt, nt_eq, nf_eq, not_true_eq_false, and_self, and_false, false_and, eq_self, Bool.toNat_true, Bool.toNat_false, i_bool, i_bool1, Bool.false_eq_true, Bool.true_eq_false, reduceCtorEq, i_neg1, i_neg2, i_neg3, i_neg4, i_neg5, i_neg6, i_neg7, i_neg8, i_neg9, i_nega, i_negb, i_negc, i_max2, i_min2])
        refine c_in (inb_le (N := 5) (by decide)) ?_
        try simp (disch := omega) only [no0, no1, nz1, nz2, nz3, nz4, nz5, nz7, nz8, Classical.not_not, bz0, bz1, wi_nil, ld_0, ld_s, isIv_I, isLv_L, isRv_R, true_and, and_true, lset_0, lset_1, lset_s, avw_I, avw_L, avw_R, clr_cons, clr_nil, kst_0, kst_1, kstL_0, kstL_1, addk_I, pA_0, pA_s, pD_0, pD_s, wid_nil, wid_cons, rcv_c, putv_I, putv_L, List.length_cons, List.length_nil, List.set_cons_zero, List.set_cons_succ, not_false_eq_true, Nat.reduceMod, Nat.reduceDiv, Nat.reduceEqDiff, Nat.reduceLT, Nat.reduceLeDiff, Nat.reduceAdd, Nat.reduceSub, reduceIte, Nat.lt_irrefl, Nat.zero_ne_one, Nat.one_ne_zero, Nat.zero_add, List.nil_append, List.cons_append, Option.toList_some, Option.toList_none, forall_const, false_implies, true_implies, false_or, or_false, true_or, or_true, i_le, i_lt, i_eq, i_eq0, i_lt0, i_0le, i_0lt, i_le0, i_in1, i_cl, nI_add, pk_mul, pk_sub, i_div, i_rem, i_sh1, i_bit, i_or, i_and, i_andn, nt_le, nf_le, nt_lt, nf_lt, nt_eq, nf_eq, not_true_eq_false, and_self, and_false, false_and, eq_self, Bool.toNat_true, Bool.toNat_false, i_bool, i_bool1, Bool.false_eq_true, Bool.true_eq_false, reduceCtorEq, i_neg1, i_neg2, i_neg3, i_neg4, i_neg5, i_neg6, i_neg7, i_neg8, i_neg9, i_nega, i_negb, i_negc, i_max2, i_min2, hv, wi_nil]
        repeat (
          first
          | refine s_X9_odds_0 ?_
          | refine s_X9_odds_7 ?_
          | refine s_X9_odds_17 ?_
          | refine s_X9_odds_24 ?_
          | refine s_X9_odds_25 ?_
          | refine s_X9_odds_28 ?_
          | refine s_X9_odds_35 ?_
          | refine s_X9_odds_44 ?_
          | refine s_X9_odds_62 ?_
          | refine s_X9_odds_79 ?_
          | refine s_X9_odds_104 ?_
          | refine s_X9_odds_132 ?_
          | refine s_X9_odds_139 ?_
          | refine s_X9_odds_146 ?_
          | refine s_X9_odds_157 ?_
          | refine s_X9_odds_159 ?_
          | refine s_X9_odds_168 ?_
          | refine s_X9_odds_175 ?_
          | refine s_X9_odds_181 ?_
          | refine s_X9_odds_189 ?_
          simp (disch := omega) only [B_X9_odds_0, wi_aload_n, wi_iload_n, wi_iconst, wi_invokestatic, B_X9_odds_7, wi_if_eq, wi_bipush, B_X9_odds_17, wi_goto, B_X9_odds_24, B_X9_odds_25, wi_invokevirtual, cnt_8, B_X9_odds_28, wi_istore_n, wi_if_ge, wi_ireturn, B_X9_odds_35, wi_getfield, fldv_8_20, fds_8_20, B_X9_odds_44, wi_istore, wi_lconst, wi_lstore, B_X9_odds_55, wi_iload, B_X9_odds_62, wi_icmp_ge, wi_lload, wi_ldc2_w, wi_lmul, wi_iinc, B_X9_odds_79, B_X9_odds_82, wi_icmp_gt, wi_ixor, wi_iand, wi_if_ne, B_X9_odds_104, wi_icmp_lt, B_X9_odds_114, fldv_8_10, fds_8_10, B_X9_odds_132, B_X9_odds_139, B_X9_odds_146, wi_isub, wi_i2l, B_X9_odds_157, B_X9_odds_159, B_X9_odds_168, wi_ladd, B_X9_odds_175, B_X9_odds_181, B_X9_odds_189, no0, no1, nz1, nz2, nz3, nz4, nz5, nz7, nz8, Classical.not_not, bz0, bz1, wi_nil, ld_0, ld_s, isIv_I, isLv_L, isRv_R, true_and, and_true, lset_0, lset_1, lset_s, avw_I, avw_L, avw_R, clr_cons, clr_nil, kst_0, kst_1, kstL_0, kstL_1, addk_I, pA_0, pA_s, pD_0, pD_s, wid_nil, wid_cons, rcv_c, putv_I, putv_L, List.length_cons, List.length_nil, List.set_cons_zero, List.set_cons_succ, not_false_eq_true, Nat.reduceMod, Nat.reduceDiv, Nat.reduceEqDiff, Nat.reduceLT, Nat.reduceLeDiff, Nat.reduceAdd, Nat.reduceSub, reduceIte, Nat.lt_irrefl, Nat.zero_ne_one, Nat.one_ne_zero, Nat.zero_add, List.nil_append, List.cons_append, Option.toList_some, Option.toList_none, forall_const, false_implies, true_implies, false_or, or_false, true_or, or_true, i_le, i_lt, i_eq, i_eq0, i_lt0, i_0le, i_0lt, i_le0, i_in1, i_cl, nI_add, pk_mul, pk_sub, i_div, i_rem, i_sh1, i_bit, i_or, i_and, i_andn, nt_le, nf_le, nt_lt, nf_lt, nt_eq, nf_eq, not_true_eq_false, and_self, and_false, false_and, eq_self, Bool.toNat_true, Bool.toNat_false, i_bool, i_bool1, Bool.false_eq_true, Bool.true_eq_false, reduceCtorEq, i_neg1, i_neg2, i_neg3, i_neg4, i_neg5, i_neg6, i_neg7, i_neg8, i_neg9, i_nega, i_negb, i_negc, i_max2, i_min2, hv])
        refine c_in (inb_le (N := 12) (by decide)) ?_
        try simp (disch := omega) only [no0, no1, nz1, nz2, nz3, nz4, nz5, nz7, nz8, Classical.not_not, bz0, bz1, wi_nil, ld_0, ld_s, isIv_I, isLv_L, isRv_R, true_and, and_true, lset_0, lset_1, lset_s, avw_I, avw_L, avw_R, clr_cons, clr_nil, kst_0, kst_1, kstL_0, kstL_1, addk_I, pA_0, pA_s, pD_0, pD_s, wid_nil, wid_cons, rcv_c, putv_I, putv_L, List.length_cons, List.length_nil, List.set_cons_zero, List.set_cons_succ, not_false_eq_true, Nat.reduceMod, Nat.reduceDiv, Nat.reduceEqDiff, Nat.reduceLT, Nat.reduceLeDiff, Nat.reduceAdd, Nat.reduceSub, reduceIte, Nat.lt_irrefl, Nat.zero_ne_one, Nat.one_ne_zero, Nat.zero_add, List.nil_append, List.cons_append, Option.toList_some, Option.toList_none, forall_const, false_implies, true_implies, false_or, or_false, true_or, or_true, i_le, i_lt, i_eq, i_eq0, i_lt0, i_0le, i_0lt, i_le0, i_in1, i_cl, nI_add, pk_mul, pk_sub, i_div, i_rem, i_sh1, i_bit, i_or, i_and, i_andn, nt_le, nf_le, nt_lt, nf_lt, nt_eq, nf_eq, not_true_eq_false, and_self, and_false, false_and, eq_self, Bool.toNat_true, Bool.toNat_false, i_bool, i_bool1, Bool.false_eq_true, Bool.true_eq_false, reduceCtorEq, i_neg1, i_neg2, i_neg3, i_neg4, i_neg5, i_neg6, i_neg7, i_neg8, i_neg9, i_nega, i_negb, i_negc, i_max2, i_min2, hp, wi_nil]
        repeat (
          first
          | refine s_X9_odds_0 ?_
          | refine s_X9_odds_7 ?_
          | refine s_X9_odds_17 ?_
          | refine s_X9_odds_24 ?_
          | refine s_X9_odds_25 ?_
          | refine s_X9_odds_28 ?_
          | refine s_X9_odds_35 ?_
          | refine s_X9_odds_44 ?_
          | refine s_X9_odds_62 ?_
          | refine s_X9_odds_79 ?_
          | refine s_X9_odds_104 ?_
          | refine s_X9_odds_132 ?_
          | refine s_X9_odds_139 ?_
          | refine s_X9_odds_146 ?_
          | refine s_X9_odds_157 ?_
          | refine s_X9_odds_159 ?_
          | refine s_X9_odds_168 ?_
          | refine s_X9_odds_175 ?_
          | refine s_X9_odds_181 ?_
          | refine s_X9_odds_189 ?_
          simp (disch := omega) only [B_X9_odds_0, wi_aload_n, wi_iload_n, wi_iconst, wi_invokestatic, B_X9_odds_7, wi_if_eq, wi_bipush, B_X9_odds_17, wi_goto, B_X9_odds_24, B_X9_odds_25, wi_invokevirtual, cnt_8, B_X9_odds_28, wi_istore_n, wi_if_ge, wi_ireturn, B_X9_odds_35, wi_getfield, fldv_8_20, fds_8_20, B_X9_odds_44, wi_istore, wi_lconst, wi_lstore, B_X9_odds_55, wi_iload, B_X9_odds_62, wi_icmp_ge, wi_lload, wi_ldc2_w, wi_lmul, wi_iinc, B_X9_odds_79, B_X9_odds_82, wi_icmp_gt, wi_ixor, wi_iand, wi_if_ne, B_X9_odds_104, wi_icmp_lt, B_X9_odds_114, fldv_8_10, fds_8_10, B_X9_odds_132, B_X9_odds_139, B_X9_odds_146, wi_isub, wi_i2l, B_X9_odds_157, B_X9_odds_159, B_X9_odds_168, wi_ladd, B_X9_odds_175, B_X9_odds_181, B_X9_odds_189, no0, no1, nz1, nz2, nz3, nz4, nz5, nz7, nz8, Classical.not_not, bz0, bz1, wi_nil, ld_0, ld_s, isIv_I, isLv_L, isRv_R, true_and, and_true, lset_0, lset_1, lset_s, avw_I, avw_L, avw_R, clr_cons, clr_nil, kst_0, kst_1, kstL_0, kstL_1, addk_I, pA_0, pA_s, pD_0, pD_s, wid_nil, wid_cons, rcv_c, putv_I, putv_L, List.length_cons, List.length_nil, List.set_cons_zero, List.set_cons_succ, not_false_eq_true, Nat.reduceMod, Nat.reduceDiv, Nat.reduceEqDiff, Nat.reduceLT, Nat.reduceLeDiff, Nat.reduceAdd, Nat.reduceSub, reduceIte, Nat.lt_irrefl, Nat.zero_ne_one, Nat.one_ne_zero, Nat.zero_add, List.nil_append, List.cons_append, Option.toList_some, Option.toList_none, forall_const, false_implies, true_implies, false_or, or_false, true_or, or_true, i_le, i_lt, i_eq, i_eq0, i_lt0, i_0le, i_0lt, i_le0, i_in1, i_cl, nI_add, pk_mul, pk_sub, i_div, i_rem, i_sh1, i_bit, i_or, i_and, i_andn, nt_le, nf_le, nt_lt, nf_lt, nt_eq, nf_eq, not_true_eq_false, and_self, and_false, false_and, eq_self, Bool.toNat_true, Bool.toNat_false, i_bool, i_bool1, Bool.false_eq_true, Bool.true_eq_false, reduceCtorEq, i_neg1, i_neg2, i_neg3, i_neg4, i_neg5, i_neg6, i_neg7, i_neg8, i_neg9, i_nega, i_negb, i_negc, i_max2, i_min2, hp])
        refine c_needS hm e0 ?_
        try simp (disch := omega) only [no0, no1, nz1, nz2, nz3, nz4, nz5, nz7, nz8, Classical.not_not, bz0, bz1, wi_nil, ld_0, ld_s, isIv_I, isLv_L, isRv_R, true_and, and_true, lset_0, lset_1, lset_s, avw_I, avw_L, avw_R, clr_cons, clr_nil, kst_0, kst_1, kstL_0, kstL_1, addk_I, pA_0, pA_s, pD_0, pD_s, wid_nil, wid_cons, rcv_c, putv_I, putv_L, List.length_cons, List.length_nil, List.set_cons_zero, List.set_cons_succ, not_false_eq_true, Nat.reduceMod, Nat.reduceDiv, Nat.reduceEqDiff, Nat.reduceLT, Nat.reduceLeDiff, Nat.reduceAdd, Nat.reduceSub, reduceIte, Nat.lt_irrefl, Nat.zero_ne_one, Nat.one_ne_zero, Nat.zero_add, List.nil_append, List.cons_append, Option.toList_some, Option.toList_none, forall_const, false_implies, true_implies, false_or, or_false, true_or, or_true, i_le, i_lt, i_eq, i_eq0, i_lt0, i_0le, i_0lt, i_le0, i_in1, i_cl, nI_add, pk_mul, pk_sub, i_div, i_rem, i_sh1, i_bit, i_or, i_and, i_andn, nt_le, nf_le, nt_lt, nf_lt, nt_eq, nf_eq, not_true_eq_false, and_self, and_false, false_and, eq_self, Bool.toNat_true, Bool.toNat_false, i_bool, i_bool1, Bool.false_eq_true, Bool.true_eq_false, reduceCtorEq, i_neg1, i_neg2, i_neg3, i_neg4, i_neg5, i_neg6, i_neg7, i_neg8, i_neg9, i_nega, i_negb, i_negc, i_max2, i_min2, wi_nil]
        repeat (
          first
          | refine s_X9_odds_0 ?_
          | refine s_X9_odds_7 ?_
          | refine s_X9_odds_17 ?_
          | refine s_X9_odds_24 ?_
          | refine s_X9_odds_25 ?_
          | refine s_X9_odds_28 ?_
          | refine s_X9_odds_35 ?_
          | refine s_X9_odds_44 ?_
          | refine s_X9_odds_62 ?_
          | refine s_X9_odds_79 ?_
          | refine s_X9_odds_104 ?_
          | refine s_X9_odds_132 ?_
          | refine s_X9_odds_139 ?_
          | refine s_X9_odds_146 ?_
          | refine s_X9_odds_157 ?_
          | refine s_X9_odds_159 ?_
          | refine s_X9_odds_168 ?_
          | refine s_X9_odds_175 ?_
          | refine s_X9_odds_181 ?_
          | refine s_X9_odds_189 ?_
          simp (disch := omega) only [B_X9_odds_0, wi_aload_n, wi_iload_n, wi_iconst, wi_invokestatic, B_X9_odds_7, wi_if_eq, wi_bipush, B_X9_odds_17, wi_goto, B_X9_odds_24, B_X9_odds_25, wi_invokevirtual, cnt_8, B_X9_odds_28, wi_istore_n, wi_if_ge, wi_ireturn, B_X9_odds_35, wi_getfield, fldv_8_20, fds_8_20, B_X9_odds_44, wi_istore, wi_lconst, wi_lstore, B_X9_odds_55, wi_iload, B_X9_odds_62, wi_icmp_ge, wi_lload, wi_ldc2_w, wi_lmul, wi_iinc, B_X9_odds_79, B_X9_odds_82, wi_icmp_gt, wi_ixor, wi_iand, wi_if_ne, B_X9_odds_104, wi_icmp_lt, B_X9_odds_114, fldv_8_10, fds_8_10, B_X9_odds_132, B_X9_odds_139, B_X9_odds_146, wi_isub, wi_i2l, B_X9_odds_157, B_X9_odds_159, B_X9_odds_168, wi_ladd, B_X9_odds_175, B_X9_odds_181, B_X9_odds_189, no0, no1, nz1, nz2, nz3, nz4, nz5, nz7, nz8, Classical.not_not, bz0, bz1, wi_nil, ld_0, ld_s, isIv_I, isLv_L, isRv_R, true_and, and_true, lset_0, lset_1, lset_s, avw_I, avw_L, avw_R, clr_cons, clr_nil, kst_0, kst_1, kstL_0, kstL_1, addk_I, pA_0, pA_s, pD_0, pD_s, wid_nil, wid_cons, rcv_c, putv_I, putv_L, List.length_cons, List.length_nil, List.set_cons_zero, List.set_cons_succ, not_false_eq_true, Nat.reduceMod, Nat.reduceDiv, Nat.reduceEqDiff, Nat.reduceLT, Nat.reduceLeDiff, Nat.reduceAdd, Nat.reduceSub, reduceIte, Nat.lt_irrefl, Nat.zero_ne_one, Nat.one_ne_zero, Nat.zero_add, List.nil_append, List.cons_append, Option.toList_some, Option.toList_none, forall_const, false_implies, true_implies, false_or, or_false, true_or, or_true, i_le, i_lt, i_eq, i_eq0, i_lt0, i_0le, i_0lt, i_le0, i_in1, i_cl, nI_add, pk_mul, pk_sub, i_div, i_rem, i_sh1, i_bit, i_or, i_and, i_andn, nt_le, nf_le, nt_lt, nf_lt, nt_eq, nf_eq, not_true_eq_false, and_self, and_false, false_and, eq_self, Bool.toNat_true, Bool.toNat_false, i_bool, i_bool1, Bool.false_eq_true, Bool.true_eq_false, reduceCtorEq, i_neg1, i_neg2, i_neg3, i_neg4, i_neg5, i_neg6, i_neg7, i_neg8, i_neg9, i_nega, i_negb, i_negc, i_max2, i_min2])
        exact pm h
      · obtain ⟨hch, hcs⟩ := chY_sub hok 0
        have h5 := bct5 hch
        have h32 : 2 ^ bct (chY Y 0) ≤ 32 := p2_lt h5
        have hle := od_leX (v := v) (p := p) (by omega) h5 _ (Nat.le_refl (2 ^ bct (chY Y 0)))
        have hpw : 12 ^ bct (chY Y 0) ≤ 12 ^ 5 := Nat.pow_le_pow_right (by decide) h5
        have hpw0 : 0 < 12 ^ bct (chY Y 0) := Nat.pow_pos (by decide)
        have e125 : 12 ^ 5 = 248832 := by decide
        have heq := od_eq (v := v) (p := p) hch (by omega)
        refine x_entry (ls2 := [aR 7 0, aI (nI v), aI (nI p), aU, aU, aU, aU, aU]) (Nat.le_of_ble_eq_true rfl) pl_8 rfl (Nat.le_of_ble_eq_true rfl) ?_
        try simp (disch := omega) only [no0, no1, nz1, nz2, nz3, nz4, nz5, nz7, nz8, Classical.not_not, bz0, bz1, wi_nil, ld_0, ld_s, isIv_I, isLv_L, isRv_R, true_and, and_true, lset_0, lset_1, lset_s, avw_I, avw_L, avw_R, clr_cons, clr_nil, kst_0, kst_1, kstL_0, kstL_1, addk_I, pA_0, pA_s, pD_0, pD_s, wid_nil, wid_cons, rcv_c, putv_I, putv_L, List.length_cons, List.length_nil, List.set_cons_zero, List.set_cons_succ, not_false_eq_true, Nat.reduceMod, Nat.reduceDiv, Nat.reduceEqDiff, Nat.reduceLT, Nat.reduceLeDiff, Nat.reduceAdd, Nat.reduceSub, reduceIte, Nat.lt_irrefl, Nat.zero_ne_one, Nat.one_ne_zero, Nat.zero_add, List.nil_append, List.cons_append, Option.toList_some, Option.toList_none, forall_const, false_implies, true_implies, false_or, or_false, true_or, or_true, i_le, i_lt, i_eq, i_eq0, i_lt0, i_0le, i_0lt, i_le0, i_in1, i_cl, nI_add, pk_mul, pk_sub, i_div, i_rem, i_sh1, i_bit, i_or, i_and, i_andn, nt_le, nf_le, nt_lt, nf_lt, nt_eq, nf_eq, not_true_eq_false, and_self, and_false, false_and, eq_self, Bool.toNat_true, Bool.toNat_false, i_bool, i_bool1, Bool.false_eq_true, Bool.true_eq_false, reduceCtorEq, i_neg1, i_neg2, i_neg3, i_neg4, i_neg5, i_neg6, i_neg7, i_neg8, i_neg9, i_nega, i_negb, i_negc, i_max2, i_min2, (y_n hy), wi_nil]
        repeat (
          first
          | refine s_X8_odds_0 ?_
          | refine s_X8_odds_19 ?_
          | refine s_X8_odds_21 ?_
          | refine s_X8_odds_34 ?_
          | refine s_X8_odds_42 ?_
          | refine s_X8_odds_45 ?_
          | refine s_X8_odds_65 ?_
          | refine s_X8_odds_84 ?_
          | refine s_X8_odds_92 ?_
          | refine s_X8_odds_96 ?_
          | refine s_X8_odds_102 ?_
          | refine s_X8_odds_114 ?_
          | refine s_X8_odds_117 ?_
          simp (disch := omega) only [B_X8_odds_0, wi_iload_n, wi_if_lt, wi_iconst, wi_icmp_gt, wi_bipush, wi_icmp_le, B_X8_odds_19, wi_ireturn, B_X8_odds_21, wi_aload_n, wi_getfield, fldv_7_3, fds_7_3, cnt_7, fldv_6_7, fds_6_7, cnt_6, wi_if_ne, B_X8_odds_34, wi_invokevirtual, B_X8_odds_42, wi_invokestatic, B_X8_odds_45, wi_istore_n, wi_lconst, wi_lstore, wi_istore, B_X8_odds_52, wi_iload, wi_ishl, wi_icmp_ge, B_X8_odds_65, wi_icmp_lt, wi_lload, wi_isub, B_X8_odds_84, B_X8_odds_92, wi_lmul, wi_ladd, B_X8_odds_96, wi_iinc, wi_goto, B_X8_odds_102, fldv_7_8, fds_7_8, B_X8_odds_114, cnt_4, B_X8_odds_117, no0, no1, nz1, nz2, nz3, nz4, nz5, nz7, nz8, Classical.not_not, bz0, bz1, wi_nil, ld_0, ld_s, isIv_I, isLv_L, isRv_R, true_and, and_true, lset_0, lset_1, lset_s, avw_I, avw_L, avw_R, clr_cons, clr_nil, kst_0, kst_1, kstL_0, kstL_1, addk_I, pA_0, pA_s, pD_0, pD_s, wid_nil, wid_cons, rcv_c, putv_I, putv_L, List.length_cons, List.length_nil, List.set_cons_zero, List.set_cons_succ, not_false_eq_true, Nat.reduceMod, Nat.reduceDiv, Nat.reduceEqDiff, Nat.reduceLT, Nat.reduceLeDiff, Nat.reduceAdd, Nat.reduceSub, reduceIte, Nat.lt_irrefl, Nat.zero_ne_one, Nat.one_ne_zero, Nat.zero_add, List.nil_append, List.cons_append, Option.toList_some, Option.toList_none, forall_const, false_implies, true_implies, false_or, or_false, true_or, or_true, i_le, i_lt, i_eq, i_eq0, i_lt0, i_0le, i_0lt, i_le0, i_in1, i_cl, nI_add, pk_mul, pk_sub, i_div, i_rem, i_sh1, i_bit, i_or, i_and, i_andn, nt_le, nf_le, nt_lt, nf_lt, nt_eq, nf_eq, not_true_eq_false, and_self, and_false, false_and, eq_self, Bool.toNat_true, Bool.toNat_false, i_bool, i_bool1, Bool.false_eq_true, Bool.true_eq_false, reduceCtorEq, i_neg1, i_neg2, i_neg3, i_neg4, i_neg5, i_neg6, i_neg7, i_neg8, i_neg9, i_nega, i_negb, i_negc, i_max2, i_min2, (y_n hy)])
        refine c_choice (by decide) hy hok (by decide) (by decide) (fun g hg => ?_)
        try simp (disch := omega) only [no0, no1, nz1, nz2, nz3, nz4, nz5, nz7, nz8, Classical.not_not, bz0, bz1, wi_nil, ld_0, ld_s, isIv_I, isLv_L, isRv_R, true_and, and_true, lset_0, lset_1, lset_s, avw_I, avw_L, avw_R, clr_cons, clr_nil, kst_0, kst_1, kstL_0, kstL_1, addk_I, pA_0, pA_s, pD_0, pD_s, wid_nil, wid_cons, rcv_c, putv_I, putv_L, List.length_cons, List.length_nil, List.set_cons_zero, List.set_cons_succ, not_false_eq_true, Nat.reduceMod, Nat.reduceDiv, Nat.reduceEqDiff, Nat.reduceLT, Nat.reduceLeDiff, Nat.reduceAdd, Nat.reduceSub, reduceIte, Nat.lt_irrefl, Nat.zero_ne_one, Nat.one_ne_zero, Nat.zero_add, List.nil_append, List.cons_append, Option.toList_some, Option.toList_none, forall_const, false_implies, true_implies, false_or, or_false, true_or, or_true, i_le, i_lt, i_eq, i_eq0, i_lt0, i_0le, i_0lt, i_le0, i_in1, i_cl, nI_add, pk_mul, pk_sub, i_div, i_rem, i_sh1, i_bit, i_or, i_and, i_andn, nt_le, nf_le, nt_lt, nf_lt, nt_eq, nf_eq, not_true_eq_false, and_self, and_false, false_and, eq_self, Bool.toNat_true, Bool.toNat_false, i_bool, i_bool1, Bool.false_eq_true, Bool.true_eq_false, reduceCtorEq, i_neg1, i_neg2, i_neg3, i_neg4, i_neg5, i_neg6, i_neg7, i_neg8, i_neg9, i_nega, i_negb, i_negc, i_max2, i_min2, wi_nil]
        repeat (
          first
          | refine s_X8_odds_0 ?_
          | refine s_X8_odds_19 ?_
          | refine s_X8_odds_21 ?_
          | refine s_X8_odds_34 ?_
          | refine s_X8_odds_42 ?_
          | refine s_X8_odds_45 ?_
          | refine s_X8_odds_65 ?_
          | refine s_X8_odds_84 ?_
          | refine s_X8_odds_92 ?_
          | refine s_X8_odds_96 ?_
          | refine s_X8_odds_102 ?_
          | refine s_X8_odds_114 ?_
          | refine s_X8_odds_117 ?_
          simp (disch := omega) only [B_X8_odds_0, wi_iload_n, wi_if_lt, wi_iconst, wi_icmp_gt, wi_bipush, wi_icmp_le, B_X8_odds_19, wi_ireturn, B_X8_odds_21, wi_aload_n, wi_getfield, fldv_7_3, fds_7_3, cnt_7, fldv_6_7, fds_6_7, cnt_6, wi_if_ne, B_X8_odds_34, wi_invokevirtual, B_X8_odds_42, wi_invokestatic, B_X8_odds_45, wi_istore_n, wi_lconst, wi_lstore, wi_istore, B_X8_odds_52, wi_iload, wi_ishl, wi_icmp_ge, B_X8_odds_65, wi_icmp_lt, wi_lload, wi_isub, B_X8_odds_84, B_X8_odds_92, wi_lmul, wi_ladd, B_X8_odds_96, wi_iinc, wi_goto, B_X8_odds_102, fldv_7_8, fds_7_8, B_X8_odds_114, cnt_4, B_X8_odds_117, no0, no1, nz1, nz2, nz3, nz4, nz5, nz7, nz8, Classical.not_not, bz0, bz1, wi_nil, ld_0, ld_s, isIv_I, isLv_L, isRv_R, true_and, and_true, lset_0, lset_1, lset_s, avw_I, avw_L, avw_R, clr_cons, clr_nil, kst_0, kst_1, kstL_0, kstL_1, addk_I, pA_0, pA_s, pD_0, pD_s, wid_nil, wid_cons, rcv_c, putv_I, putv_L, List.length_cons, List.length_nil, List.set_cons_zero, List.set_cons_succ, not_false_eq_true, Nat.reduceMod, Nat.reduceDiv, Nat.reduceEqDiff, Nat.reduceLT, Nat.reduceLeDiff, Nat.reduceAdd, Nat.reduceSub, reduceIte, Nat.lt_irrefl, Nat.zero_ne_one, Nat.one_ne_zero, Nat.zero_add, List.nil_append, List.cons_append, Option.toList_some, Option.toList_none, forall_const, false_implies, true_implies, false_or, or_false, true_or, or_true, i_le, i_lt, i_eq, i_eq0, i_lt0, i_0le, i_0lt, i_le0, i_in1, i_cl, nI_add, pk_mul, pk_sub, i_div, i_rem, i_sh1, i_bit, i_or, i_and, i_andn, nt_le, nf_le, nt_lt, nf_lt, nt_eq, nf_eq, not_true_eq_false, and_self, and_false, false_and, eq_self, Bool.toNat_true, Bool.toNat_false, i_bool, i_bool1, Bool.false_eq_true, Bool.true_eq_false, reduceCtorEq, i_neg1, i_neg2, i_neg3, i_neg4, i_neg5, i_neg6, i_neg7, i_neg8, i_neg9, i_nega, i_negb, i_negc, i_max2, i_min2])
        refine c_bitCount (by omega) ?_
        try simp (disch := omega) only [no0, no1, nz1, nz2, nz3, nz4, nz5, nz7, nz8, Classical.not_not, bz0, bz1, wi_nil, ld_0, ld_s, isIv_I, isLv_L, isRv_R, true_and, and_true, lset_0, lset_1, lset_s, avw_I, avw_L, avw_R, clr_cons, clr_nil, kst_0, kst_1, kstL_0, kstL_1, addk_I, pA_0, pA_s, pD_0, pD_s, wid_nil, wid_cons, rcv_c, putv_I, putv_L, List.length_cons, List.length_nil, List.set_cons_zero, List.set_cons_succ, not_false_eq_true, Nat.reduceMod, Nat.reduceDiv, Nat.reduceEqDiff, Nat.reduceLT, Nat.reduceLeDiff, Nat.reduceAdd, Nat.reduceSub, reduceIte, Nat.lt_irrefl, Nat.zero_ne_one, Nat.one_ne_zero, Nat.zero_add, List.nil_append, List.cons_append, Option.toList_some, Option.toList_none, forall_const, false_implies, true_implies, false_or, or_false, true_or, or_true, i_le, i_lt, i_eq, i_eq0, i_lt0, i_0le, i_0lt, i_le0, i_in1, i_cl, nI_add, pk_mul, pk_sub, i_div, i_rem, i_sh1, i_bit, i_or, i_and, i_andn, nt_le, nf_le, nt_lt, nf_lt, nt_eq, nf_eq, not_true_eq_false, and_self, and_false, false_and, eq_self, Bool.toNat_true, Bool.toNat_false, i_bool, i_bool1, Bool.false_eq_true, Bool.true_eq_false, reduceCtorEq, i_neg1, i_neg2, i_neg3, i_neg4, i_neg5, i_neg6, i_neg7, i_neg8, i_neg9, i_nega, i_negb, i_negc, i_max2, i_min2, wi_nil]
        repeat (
          first
          | refine s_X8_odds_0 ?_
          | refine s_X8_odds_19 ?_
          | refine s_X8_odds_21 ?_
          | refine s_X8_odds_34 ?_
          | refine s_X8_odds_42 ?_
          | refine s_X8_odds_45 ?_
          | refine s_X8_odds_65 ?_
          | refine s_X8_odds_84 ?_
          | refine s_X8_odds_92 ?_
          | refine s_X8_odds_96 ?_
          | refine s_X8_odds_102 ?_
          | refine s_X8_odds_114 ?_
          | refine s_X8_odds_117 ?_
          simp (disch := omega) only [B_X8_odds_0, wi_iload_n, wi_if_lt, wi_iconst, wi_icmp_gt, wi_bipush, wi_icmp_le, B_X8_odds_19, wi_ireturn, B_X8_odds_21, wi_aload_n, wi_getfield, fldv_7_3, fds_7_3, cnt_7, fldv_6_7, fds_6_7, cnt_6, wi_if_ne, B_X8_odds_34, wi_invokevirtual, B_X8_odds_42, wi_invokestatic, B_X8_odds_45, wi_istore_n, wi_lconst, wi_lstore, wi_istore, B_X8_odds_52, wi_iload, wi_ishl, wi_icmp_ge, B_X8_odds_65, wi_icmp_lt, wi_lload, wi_isub, B_X8_odds_84, B_X8_odds_92, wi_lmul, wi_ladd, B_X8_odds_96, wi_iinc, wi_goto, B_X8_odds_102, fldv_7_8, fds_7_8, B_X8_odds_114, cnt_4, B_X8_odds_117, no0, no1, nz1, nz2, nz3, nz4, nz5, nz7, nz8, Classical.not_not, bz0, bz1, wi_nil, ld_0, ld_s, isIv_I, isLv_L, isRv_R, true_and, and_true, lset_0, lset_1, lset_s, avw_I, avw_L, avw_R, clr_cons, clr_nil, kst_0, kst_1, kstL_0, kstL_1, addk_I, pA_0, pA_s, pD_0, pD_s, wid_nil, wid_cons, rcv_c, putv_I, putv_L, List.length_cons, List.length_nil, List.set_cons_zero, List.set_cons_succ, not_false_eq_true, Nat.reduceMod, Nat.reduceDiv, Nat.reduceEqDiff, Nat.reduceLT, Nat.reduceLeDiff, Nat.reduceAdd, Nat.reduceSub, reduceIte, Nat.lt_irrefl, Nat.zero_ne_one, Nat.one_ne_zero, Nat.zero_add, List.nil_append, List.cons_append, Option.toList_some, Option.toList_none, forall_const, false_implies, true_implies, false_or, or_false, true_or, or_true, i_le, i_lt, i_eq, i_eq0, i_lt0, i_0le, i_0lt, i_le0, i_in1, i_cl, nI_add, pk_mul, pk_sub, i_div, i_rem, i_sh1, i_bit, i_or, i_and, i_andn, nt_le, nf_le, nt_lt, nf_lt, nt_eq, nf_eq, not_true_eq_false, and_self, and_false, false_and, eq_self, Bool.toNat_true, Bool.toNat_false, i_bool, i_bool1, Bool.false_eq_true, Bool.true_eq_false, reduceCtorEq, i_neg1, i_neg2, i_neg3, i_neg4, i_neg5, i_neg6, i_neg7, i_neg8, i_neg9, i_nega, i_negb, i_negc, i_max2, i_min2])
        refine l_xodds (a := bct (chY Y 0)) (v := v) (p := p) (by omega) h5 (by omega) ?_ (2 ^ bct (chY Y 0)) 0 (by omega)
        try simp (disch := omega) only [no0, no1, nz1, nz2, nz3, nz4, nz5, nz7, nz8, Classical.not_not, bz0, bz1, wi_nil, ld_0, ld_s, isIv_I, isLv_L, isRv_R, true_and, and_true, lset_0, lset_1, lset_s, avw_I, avw_L, avw_R, clr_cons, clr_nil, kst_0, kst_1, kstL_0, kstL_1, addk_I, pA_0, pA_s, pD_0, pD_s, wid_nil, wid_cons, rcv_c, putv_I, putv_L, List.length_cons, List.length_nil, List.set_cons_zero, List.set_cons_succ, not_false_eq_true, Nat.reduceMod, Nat.reduceDiv, Nat.reduceEqDiff, Nat.reduceLT, Nat.reduceLeDiff, Nat.reduceAdd, Nat.reduceSub, reduceIte, Nat.lt_irrefl, Nat.zero_ne_one, Nat.one_ne_zero, Nat.zero_add, List.nil_append, List.cons_append, Option.toList_some, Option.toList_none, forall_const, false_implies, true_implies, false_or, or_false, true_or, or_true, i_le, i_lt, i_eq, i_eq0, i_lt0, i_0le, i_0lt, i_le0, i_in1, i_cl, nI_add, pk_mul, pk_sub, i_div, i_rem, i_sh1, i_bit, i_or, i_and, i_andn, nt_le, nf_le, nt_lt, nf_lt, nt_eq, nf_eq, not_true_eq_false, and_self, and_false, false_and, eq_self, Bool.toNat_true, Bool.toNat_false, i_bool, i_bool1, Bool.false_eq_true, Bool.true_eq_false, reduceCtorEq, i_neg1, i_neg2, i_neg3, i_neg4, i_neg5, i_neg6, i_neg7, i_neg8, i_neg9, i_nega, i_negb, i_negc, i_max2, i_min2, wi_nil]
        repeat (
          first
          | refine s_X8_odds_0 ?_
          | refine s_X8_odds_19 ?_
          | refine s_X8_odds_21 ?_
          | refine s_X8_odds_34 ?_
          | refine s_X8_odds_42 ?_
          | refine s_X8_odds_45 ?_
          | refine s_X8_odds_65 ?_
          | refine s_X8_odds_84 ?_
          | refine s_X8_odds_92 ?_
          | refine s_X8_odds_96 ?_
          | refine s_X8_odds_102 ?_
          | refine s_X8_odds_114 ?_
          | refine s_X8_odds_117 ?_
          simp (disch := omega) only [B_X8_odds_0, wi_iload_n, wi_if_lt, wi_iconst, wi_icmp_gt, wi_bipush, wi_icmp_le, B_X8_odds_19, wi_ireturn, B_X8_odds_21, wi_aload_n, wi_getfield, fldv_7_3, fds_7_3, cnt_7, fldv_6_7, fds_6_7, cnt_6, wi_if_ne, B_X8_odds_34, wi_invokevirtual, B_X8_odds_42, wi_invokestatic, B_X8_odds_45, wi_istore_n, wi_lconst, wi_lstore, wi_istore, B_X8_odds_52, wi_iload, wi_ishl, wi_icmp_ge, B_X8_odds_65, wi_icmp_lt, wi_lload, wi_isub, B_X8_odds_84, B_X8_odds_92, wi_lmul, wi_ladd, B_X8_odds_96, wi_iinc, wi_goto, B_X8_odds_102, fldv_7_8, fds_7_8, B_X8_odds_114, cnt_4, B_X8_odds_117, no0, no1, nz1, nz2, nz3, nz4, nz5, nz7, nz8, Classical.not_not, bz0, bz1, wi_nil, ld_0, ld_s, isIv_I, isLv_L, isRv_R, true_and, and_true, lset_0, lset_1, lset_s, avw_I, avw_L, avw_R, clr_cons, clr_nil, kst_0, kst_1, kstL_0, kstL_1, addk_I, pA_0, pA_s, pD_0, pD_s, wid_nil, wid_cons, rcv_c, putv_I, putv_L, List.length_cons, List.length_nil, List.set_cons_zero, List.set_cons_succ, not_false_eq_true, Nat.reduceMod, Nat.reduceDiv, Nat.reduceEqDiff, Nat.reduceLT, Nat.reduceLeDiff, Nat.reduceAdd, Nat.reduceSub, reduceIte, Nat.lt_irrefl, Nat.zero_ne_one, Nat.one_ne_zero, Nat.zero_add, List.nil_append, List.cons_append, Option.toList_some, Option.toList_none, forall_const, false_implies, true_implies, false_or, or_false, true_or, or_true, i_le, i_lt, i_eq, i_eq0, i_lt0, i_0le, i_0lt, i_le0, i_in1, i_cl, nI_add, pk_mul, pk_sub, i_div, i_rem, i_sh1, i_bit, i_or, i_and, i_andn, nt_le, nf_le, nt_lt, nf_lt, nt_eq, nf_eq, not_true_eq_false, and_self, and_false, false_and, eq_self, Bool.toNat_true, Bool.toNat_false, i_bool, i_bool1, Bool.false_eq_true, Bool.true_eq_false, reduceCtorEq, i_neg1, i_neg2, i_neg3, i_neg4, i_neg5, i_neg6, i_neg7, i_neg8, i_neg9, i_nega, i_negb, i_negc, i_max2, i_min2])
        refine c_power (by decide) h5 ?_
        try simp (disch := omega) only [no0, no1, nz1, nz2, nz3, nz4, nz5, nz7, nz8, Classical.not_not, bz0, bz1, wi_nil, ld_0, ld_s, isIv_I, isLv_L, isRv_R, true_and, and_true, lset_0, lset_1, lset_s, avw_I, avw_L, avw_R, clr_cons, clr_nil, kst_0, kst_1, kstL_0, kstL_1, addk_I, pA_0, pA_s, pD_0, pD_s, wid_nil, wid_cons, rcv_c, putv_I, putv_L, List.length_cons, List.length_nil, List.set_cons_zero, List.set_cons_succ, not_false_eq_true, Nat.reduceMod, Nat.reduceDiv, Nat.reduceEqDiff, Nat.reduceLT, Nat.reduceLeDiff, Nat.reduceAdd, Nat.reduceSub, reduceIte, Nat.lt_irrefl, Nat.zero_ne_one, Nat.one_ne_zero, Nat.zero_add, List.nil_append, List.cons_append, Option.toList_some, Option.toList_none, forall_const, false_implies, true_implies, false_or, or_false, true_or, or_true, i_le, i_lt, i_eq, i_eq0, i_lt0, i_0le, i_0lt, i_le0, i_in1, i_cl, nI_add, pk_mul, pk_sub, i_div, i_rem, i_sh1, i_bit, i_or, i_and, i_andn, nt_le, nf_le, nt_lt, nf_lt, nt_eq, nf_eq, not_true_eq_false, and_self, and_false, false_and, eq_self, Bool.toNat_true, Bool.toNat_false, i_bool, i_bool1, Bool.false_eq_true, Bool.true_eq_false, reduceCtorEq, i_neg1, i_neg2, i_neg3, i_neg4, i_neg5, i_neg6, i_neg7, i_neg8, i_neg9, i_nega, i_negb, i_negc, i_max2, i_min2, wi_nil]
        repeat (
          first
          | refine s_X8_odds_0 ?_
          | refine s_X8_odds_19 ?_
          | refine s_X8_odds_21 ?_
          | refine s_X8_odds_34 ?_
          | refine s_X8_odds_42 ?_
          | refine s_X8_odds_45 ?_
          | refine s_X8_odds_65 ?_
          | refine s_X8_odds_84 ?_
          | refine s_X8_odds_92 ?_
          | refine s_X8_odds_96 ?_
          | refine s_X8_odds_102 ?_
          | refine s_X8_odds_114 ?_
          | refine s_X8_odds_117 ?_
          simp (disch := omega) only [B_X8_odds_0, wi_iload_n, wi_if_lt, wi_iconst, wi_icmp_gt, wi_bipush, wi_icmp_le, B_X8_odds_19, wi_ireturn, B_X8_odds_21, wi_aload_n, wi_getfield, fldv_7_3, fds_7_3, cnt_7, fldv_6_7, fds_6_7, cnt_6, wi_if_ne, B_X8_odds_34, wi_invokevirtual, B_X8_odds_42, wi_invokestatic, B_X8_odds_45, wi_istore_n, wi_lconst, wi_lstore, wi_istore, B_X8_odds_52, wi_iload, wi_ishl, wi_icmp_ge, B_X8_odds_65, wi_icmp_lt, wi_lload, wi_isub, B_X8_odds_84, B_X8_odds_92, wi_lmul, wi_ladd, B_X8_odds_96, wi_iinc, wi_goto, B_X8_odds_102, fldv_7_8, fds_7_8, B_X8_odds_114, cnt_4, B_X8_odds_117, no0, no1, nz1, nz2, nz3, nz4, nz5, nz7, nz8, Classical.not_not, bz0, bz1, wi_nil, ld_0, ld_s, isIv_I, isLv_L, isRv_R, true_and, and_true, lset_0, lset_1, lset_s, avw_I, avw_L, avw_R, clr_cons, clr_nil, kst_0, kst_1, kstL_0, kstL_1, addk_I, pA_0, pA_s, pD_0, pD_s, wid_nil, wid_cons, rcv_c, putv_I, putv_L, List.length_cons, List.length_nil, List.set_cons_zero, List.set_cons_succ, not_false_eq_true, Nat.reduceMod, Nat.reduceDiv, Nat.reduceEqDiff, Nat.reduceLT, Nat.reduceLeDiff, Nat.reduceAdd, Nat.reduceSub, reduceIte, Nat.lt_irrefl, Nat.zero_ne_one, Nat.one_ne_zero, Nat.zero_add, List.nil_append, List.cons_append, Option.toList_some, Option.toList_none, forall_const, false_implies, true_implies, false_or, or_false, true_or, or_true, i_le, i_lt, i_eq, i_eq0, i_lt0, i_0le, i_0lt, i_le0, i_in1, i_cl, nI_add, pk_mul, pk_sub, i_div, i_rem, i_sh1, i_bit, i_or, i_and, i_andn, nt_le, nf_le, nt_lt, nf_lt, nt_eq, nf_eq, not_true_eq_false, and_self, and_false, false_and, eq_self, Bool.toNat_true, Bool.toNat_false, i_bool, i_bool1, Bool.false_eq_true, Bool.true_eq_false, reduceCtorEq, i_neg1, i_neg2, i_neg3, i_neg4, i_neg5, i_neg6, i_neg7, i_neg8, i_neg9, i_nega, i_negb, i_negc, i_max2, i_min2])
        refine c_reduce (by omega) hpw0 (by omega) ?_
        try simp (disch := omega) only [no0, no1, nz1, nz2, nz3, nz4, nz5, nz7, nz8, Classical.not_not, bz0, bz1, wi_nil, ld_0, ld_s, isIv_I, isLv_L, isRv_R, true_and, and_true, lset_0, lset_1, lset_s, avw_I, avw_L, avw_R, clr_cons, clr_nil, kst_0, kst_1, kstL_0, kstL_1, addk_I, pA_0, pA_s, pD_0, pD_s, wid_nil, wid_cons, rcv_c, putv_I, putv_L, List.length_cons, List.length_nil, List.set_cons_zero, List.set_cons_succ, not_false_eq_true, Nat.reduceMod, Nat.reduceDiv, Nat.reduceEqDiff, Nat.reduceLT, Nat.reduceLeDiff, Nat.reduceAdd, Nat.reduceSub, reduceIte, Nat.lt_irrefl, Nat.zero_ne_one, Nat.one_ne_zero, Nat.zero_add, List.nil_append, List.cons_append, Option.toList_some, Option.toList_none, forall_const, false_implies, true_implies, false_or, or_false, true_or, or_true, i_le, i_lt, i_eq, i_eq0, i_lt0, i_0le, i_0lt, i_le0, i_in1, i_cl, nI_add, pk_mul, pk_sub, i_div, i_rem, i_sh1, i_bit, i_or, i_and, i_andn, nt_le, nf_le, nt_lt, nf_lt, nt_eq, nf_eq, not_true_eq_false, and_self, and_false, false_and, eq_self, Bool.toNat_true, Bool.toNat_false, i_bool, i_bool1, Bool.false_eq_true, Bool.true_eq_false, reduceCtorEq, i_neg1, i_neg2, i_neg3, i_neg4, i_neg5, i_neg6, i_neg7, i_neg8, i_neg9, i_nega, i_negb, i_negc, i_max2, i_min2, wi_nil]
        repeat (
          first
          | refine s_X8_odds_0 ?_
          | refine s_X8_odds_19 ?_
          | refine s_X8_odds_21 ?_
          | refine s_X8_odds_34 ?_
          | refine s_X8_odds_42 ?_
          | refine s_X8_odds_45 ?_
          | refine s_X8_odds_65 ?_
          | refine s_X8_odds_84 ?_
          | refine s_X8_odds_92 ?_
          | refine s_X8_odds_96 ?_
          | refine s_X8_odds_102 ?_
          | refine s_X8_odds_114 ?_
          | refine s_X8_odds_117 ?_
          simp (disch := omega) only [B_X8_odds_0, wi_iload_n, wi_if_lt, wi_iconst, wi_icmp_gt, wi_bipush, wi_icmp_le, B_X8_odds_19, wi_ireturn, B_X8_odds_21, wi_aload_n, wi_getfield, fldv_7_3, fds_7_3, cnt_7, fldv_6_7, fds_6_7, cnt_6, wi_if_ne, B_X8_odds_34, wi_invokevirtual, B_X8_odds_42, wi_invokestatic, B_X8_odds_45, wi_istore_n, wi_lconst, wi_lstore, wi_istore, B_X8_odds_52, wi_iload, wi_ishl, wi_icmp_ge, B_X8_odds_65, wi_icmp_lt, wi_lload, wi_isub, B_X8_odds_84, B_X8_odds_92, wi_lmul, wi_ladd, B_X8_odds_96, wi_iinc, wi_goto, B_X8_odds_102, fldv_7_8, fds_7_8, B_X8_odds_114, cnt_4, B_X8_odds_117, no0, no1, nz1, nz2, nz3, nz4, nz5, nz7, nz8, Classical.not_not, bz0, bz1, wi_nil, ld_0, ld_s, isIv_I, isLv_L, isRv_R, true_and, and_true, lset_0, lset_1, lset_s, avw_I, avw_L, avw_R, clr_cons, clr_nil, kst_0, kst_1, kstL_0, kstL_1, addk_I, pA_0, pA_s, pD_0, pD_s, wid_nil, wid_cons, rcv_c, putv_I, putv_L, List.length_cons, List.length_nil, List.set_cons_zero, List.set_cons_succ, not_false_eq_true, Nat.reduceMod, Nat.reduceDiv, Nat.reduceEqDiff, Nat.reduceLT, Nat.reduceLeDiff, Nat.reduceAdd, Nat.reduceSub, reduceIte, Nat.lt_irrefl, Nat.zero_ne_one, Nat.one_ne_zero, Nat.zero_add, List.nil_append, List.cons_append, Option.toList_some, Option.toList_none, forall_const, false_implies, true_implies, false_or, or_false, true_or, or_true, i_le, i_lt, i_eq, i_eq0, i_lt0, i_0le, i_0lt, i_le0, i_in1, i_cl, nI_add, pk_mul, pk_sub, i_div, i_rem, i_sh1, i_bit, i_or, i_and, i_andn, nt_le, nf_le, nt_lt, nf_lt, nt_eq, nf_eq, not_true_eq_false, and_self, and_false, false_and, eq_self, Bool.toNat_true, Bool.toNat_false, i_bool, i_bool1, Bool.false_eq_true, Bool.true_eq_false, reduceCtorEq, i_neg1, i_neg2, i_neg3, i_neg4, i_neg5, i_neg6, i_neg7, i_neg8, i_neg9, i_nega, i_negb, i_negc, i_max2, i_min2])
        refine px ?_
        rw [heq] at hle ⊢
        generalize hu : odM (chY Y 0) v p (chY Y 0 + 1) = u at hle ⊢
        generalize hw : 12 ^ bct (chY Y 0) = w at hpw hpw0 ⊢
        have hm2 : YrM (sL (sL (sA S 26 1 g) 4 0 0 (lN (u / Nat.gcd u w))) 4 0 1 (lN (w / Nat.gcd u w))) 40 Y := hm
        refine x_entry (ls2 := [aR 8 0, aI (nI v), aI (nI p), aU, aU, aU, aU, aU, aU, aU, aU, aU, aU]) (Nat.le_of_ble_eq_true rfl) pl_9 rfl (Nat.le_of_ble_eq_true rfl) ?_
        try simp (disch := omega) only [no0, no1, nz1, nz2, nz3, nz4, nz5, nz7, nz8, Classical.not_not, bz0, bz1, wi_nil, ld_0, ld_s, isIv_I, isLv_L, isRv_R, true_and, and_true, lset_0, lset_1, lset_s, avw_I, avw_L, avw_R, clr_cons, clr_nil, kst_0, kst_1, kstL_0, kstL_1, addk_I, pA_0, pA_s, pD_0, pD_s, wid_nil, wid_cons, rcv_c, putv_I, putv_L, List.length_cons, List.length_nil, List.set_cons_zero, List.set_cons_succ, not_false_eq_true, Nat.reduceMod, Nat.reduceDiv, Nat.reduceEqDiff, Nat.reduceLT, Nat.reduceLeDiff, Nat.reduceAdd, Nat.reduceSub, reduceIte, Nat.lt_irrefl, Nat.zero_ne_one, Nat.one_ne_zero, Nat.zero_add, List.nil_append, List.cons_append, Option.toList_some, Option.toList_none, forall_const, false_implies, true_implies, false_or, or_false, true_or, or_true, i_le, i_lt, i_eq, i_eq0, i_lt0, i_0le, i_0lt, i_le0, i_in1, i_cl, nI_add, pk_mul, pk_sub, i_div, i_rem, i_sh1, i_bit, i_or, i_and, i_andn, nt_le, nf_le, nt_lt, nf_lt, nt_eq, nf_eq, not_true_eq_false, and_self, and_false, false_and, eq_self, Bool.toNat_true, Bool.toNat_false, i_bool, i_bool1, Bool.false_eq_true, Bool.true_eq_false, reduceCtorEq, i_neg1, i_neg2, i_neg3, i_neg4, i_neg5, i_neg6, i_neg7, i_neg8, i_neg9, i_nega, i_negb, i_negc, i_max2, i_min2, wi_nil]
        repeat (
          first
          | refine s_X9_odds_0 ?_
          | refine s_X9_odds_7 ?_
          | refine s_X9_odds_17 ?_
          | refine s_X9_odds_24 ?_
          | refine s_X9_odds_25 ?_
          | refine s_X9_odds_28 ?_
          | refine s_X9_odds_35 ?_
          | refine s_X9_odds_44 ?_
          | refine s_X9_odds_62 ?_
          | refine s_X9_odds_79 ?_
          | refine s_X9_odds_104 ?_
          | refine s_X9_odds_132 ?_
          | refine s_X9_odds_139 ?_
          | refine s_X9_odds_146 ?_
          | refine s_X9_odds_157 ?_
          | refine s_X9_odds_159 ?_
          | refine s_X9_odds_168 ?_
          | refine s_X9_odds_175 ?_
          | refine s_X9_odds_181 ?_
          | refine s_X9_odds_189 ?_
          simp (disch := omega) only [B_X9_odds_0, wi_aload_n, wi_iload_n, wi_iconst, wi_invokestatic, B_X9_odds_7, wi_if_eq, wi_bipush, B_X9_odds_17, wi_goto, B_X9_odds_24, B_X9_odds_25, wi_invokevirtual, cnt_8, B_X9_odds_28, wi_istore_n, wi_if_ge, wi_ireturn, B_X9_odds_35, wi_getfield, fldv_8_20, fds_8_20, B_X9_odds_44, wi_istore, wi_lconst, wi_lstore, B_X9_odds_55, wi_iload, B_X9_odds_62, wi_icmp_ge, wi_lload, wi_ldc2_w, wi_lmul, wi_iinc, B_X9_odds_79, B_X9_odds_82, wi_icmp_gt, wi_ixor, wi_iand, wi_if_ne, B_X9_odds_104, wi_icmp_lt, B_X9_odds_114, fldv_8_10, fds_8_10, B_X9_odds_132, B_X9_odds_139, B_X9_odds_146, wi_isub, wi_i2l, B_X9_odds_157, B_X9_odds_159, B_X9_odds_168, wi_ladd, B_X9_odds_175, B_X9_odds_181, B_X9_odds_189, no0, no1, nz1, nz2, nz3, nz4, nz5, nz7, nz8, Classical.not_not, bz0, bz1, wi_nil, ld_0, ld_s, isIv_I, isLv_L, isRv_R, true_and, and_true, lset_0, lset_1, lset_s, avw_I, avw_L, avw_R, clr_cons, clr_nil, kst_0, kst_1, kstL_0, kstL_1, addk_I, pA_0, pA_s, pD_0, pD_s, wid_nil, wid_cons, rcv_c, putv_I, putv_L, List.length_cons, List.length_nil, List.set_cons_zero, List.set_cons_succ, not_false_eq_true, Nat.reduceMod, Nat.reduceDiv, Nat.reduceEqDiff, Nat.reduceLT, Nat.reduceLeDiff, Nat.reduceAdd, Nat.reduceSub, reduceIte, Nat.lt_irrefl, Nat.zero_ne_one, Nat.one_ne_zero, Nat.zero_add, List.nil_append, List.cons_append, Option.toList_some, Option.toList_none, forall_const, false_implies, true_implies, false_or, or_false, true_or, or_true, i_le, i_lt, i_eq, i_eq0, i_lt0, i_0le, i_0lt, i_le0, i_in1, i_cl, nI_add, pk_mul, pk_sub, i_div, i_rem, i_sh1, i_bit, i_or, i_and, i_andn, nt_le, nf_le, nt_lt, nf_lt, nt_eq, nf_eq, not_true_eq_false, and_self, and_false, false_and, eq_self, Bool.toNat_true, Bool.toNat_false, i_bool, i_bool1, Bool.false_eq_true, Bool.true_eq_false, reduceCtorEq, i_neg1, i_neg2, i_neg3, i_neg4, i_neg5, i_neg6, i_neg7, i_neg8, i_neg9, i_nega, i_negb, i_negc, i_max2, i_min2])
        refine c_in (inb_le (N := 5) (by decide)) ?_
        try simp (disch := omega) only [no0, no1, nz1, nz2, nz3, nz4, nz5, nz7, nz8, Classical.not_not, bz0, bz1, wi_nil, ld_0, ld_s, isIv_I, isLv_L, isRv_R, true_and, and_true, lset_0, lset_1, lset_s, avw_I, avw_L, avw_R, clr_cons, clr_nil, kst_0, kst_1, kstL_0, kstL_1, addk_I, pA_0, pA_s, pD_0, pD_s, wid_nil, wid_cons, rcv_c, putv_I, putv_L, List.length_cons, List.length_nil, List.set_cons_zero, List.set_cons_succ, not_false_eq_true, Nat.reduceMod, Nat.reduceDiv, Nat.reduceEqDiff, Nat.reduceLT, Nat.reduceLeDiff, Nat.reduceAdd, Nat.reduceSub, reduceIte, Nat.lt_irrefl, Nat.zero_ne_one, Nat.one_ne_zero, Nat.zero_add, List.nil_append, List.cons_append, Option.toList_some, Option.toList_none, forall_const, false_implies, true_implies, false_or, or_false, true_or, or_true, i_le, i_lt, i_eq, i_eq0, i_lt0, i_0le, i_0lt, i_le0, i_in1, i_cl, nI_add, pk_mul, pk_sub, i_div, i_rem, i_sh1, i_bit, i_or, i_and, i_andn, nt_le, nf_le, nt_lt, nf_lt, nt_eq, nf_eq, not_true_eq_false, and_self, and_false, false_and, eq_self, Bool.toNat_true, Bool.toNat_false, i_bool, i_bool1, Bool.false_eq_true, Bool.true_eq_false, reduceCtorEq, i_neg1, i_neg2, i_neg3, i_neg4, i_neg5, i_neg6, i_neg7, i_neg8, i_neg9, i_nega, i_negb, i_negc, i_max2, i_min2, hv, wi_nil]
        repeat (
          first
          | refine s_X9_odds_0 ?_
          | refine s_X9_odds_7 ?_
          | refine s_X9_odds_17 ?_
          | refine s_X9_odds_24 ?_
          | refine s_X9_odds_25 ?_
          | refine s_X9_odds_28 ?_
          | refine s_X9_odds_35 ?_
          | refine s_X9_odds_44 ?_
          | refine s_X9_odds_62 ?_
          | refine s_X9_odds_79 ?_
          | refine s_X9_odds_104 ?_
          | refine s_X9_odds_132 ?_
          | refine s_X9_odds_139 ?_
          | refine s_X9_odds_146 ?_
          | refine s_X9_odds_157 ?_
          | refine s_X9_odds_159 ?_
          | refine s_X9_odds_168 ?_
          | refine s_X9_odds_175 ?_
          | refine s_X9_odds_181 ?_
          | refine s_X9_odds_189 ?_
          simp (disch := omega) only [B_X9_odds_0, wi_aload_n, wi_iload_n, wi_iconst, wi_invokestatic, B_X9_odds_7, wi_if_eq, wi_bipush, B_X9_odds_17, wi_goto, B_X9_odds_24, B_X9_odds_25, wi_invokevirtual, cnt_8, B_X9_odds_28, wi_istore_n, wi_if_ge, wi_ireturn, B_X9_odds_35, wi_getfield, fldv_8_20, fds_8_20, B_X9_odds_44, wi_istore, wi_lconst, wi_lstore, B_X9_odds_55, wi_iload, B_X9_odds_62, wi_icmp_ge, wi_lload, wi_ldc2_w, wi_lmul, wi_iinc, B_X9_odds_79, B_X9_odds_82, wi_icmp_gt, wi_ixor, wi_iand, wi_if_ne, B_X9_odds_104, wi_icmp_lt, B_X9_odds_114, fldv_8_10, fds_8_10, B_X9_odds_132, B_X9_odds_139, B_X9_odds_146, wi_isub, wi_i2l, B_X9_odds_157, B_X9_odds_159, B_X9_odds_168, wi_ladd, B_X9_odds_175, B_X9_odds_181, B_X9_odds_189, no0, no1, nz1, nz2, nz3, nz4, nz5, nz7, nz8, Classical.not_not, bz0, bz1, wi_nil, ld_0, ld_s, isIv_I, isLv_L, isRv_R, true_and, and_true, lset_0, lset_1, lset_s, avw_I, avw_L, avw_R, clr_cons, clr_nil, kst_0, kst_1, kstL_0, kstL_1, addk_I, pA_0, pA_s, pD_0, pD_s, wid_nil, wid_cons, rcv_c, putv_I, putv_L, List.length_cons, List.length_nil, List.set_cons_zero, List.set_cons_succ, not_false_eq_true, Nat.reduceMod, Nat.reduceDiv, Nat.reduceEqDiff, Nat.reduceLT, Nat.reduceLeDiff, Nat.reduceAdd, Nat.reduceSub, reduceIte, Nat.lt_irrefl, Nat.zero_ne_one, Nat.one_ne_zero, Nat.zero_add, List.nil_append, List.cons_append, Option.toList_some, Option.toList_none, forall_const, false_implies, true_implies, false_or, or_false, true_or, or_true, i_le, i_lt, i_eq, i_eq0, i_lt0, i_0le, i_0lt, i_le0, i_in1, i_cl, nI_add, pk_mul, pk_sub, i_div, i_rem, i_sh1, i_bit, i_or, i_and, i_andn, nt_le, nf_le, nt_lt, nf_lt, nt_eq, nf_eq, not_true_eq_false, and_self, and_false, false_and, eq_self, Bool.toNat_true, Bool.toNat_false, i_bool, i_bool1, Bool.false_eq_true, Bool.true_eq_false, reduceCtorEq, i_neg1, i_neg2, i_neg3, i_neg4, i_neg5, i_neg6, i_neg7, i_neg8, i_neg9, i_nega, i_negb, i_negc, i_max2, i_min2, hv])
        refine c_in (inb_le (N := 12) (by decide)) ?_
        try simp (disch := omega) only [no0, no1, nz1, nz2, nz3, nz4, nz5, nz7, nz8, Classical.not_not, bz0, bz1, wi_nil, ld_0, ld_s, isIv_I, isLv_L, isRv_R, true_and, and_true, lset_0, lset_1, lset_s, avw_I, avw_L, avw_R, clr_cons, clr_nil, kst_0, kst_1, kstL_0, kstL_1, addk_I, pA_0, pA_s, pD_0, pD_s, wid_nil, wid_cons, rcv_c, putv_I, putv_L, List.length_cons, List.length_nil, List.set_cons_zero, List.set_cons_succ, not_false_eq_true, Nat.reduceMod, Nat.reduceDiv, Nat.reduceEqDiff, Nat.reduceLT, Nat.reduceLeDiff, Nat.reduceAdd, Nat.reduceSub, reduceIte, Nat.lt_irrefl, Nat.zero_ne_one, Nat.one_ne_zero, Nat.zero_add, List.nil_append, List.cons_append, Option.toList_some, Option.toList_none, forall_const, false_implies, true_implies, false_or, or_false, true_or, or_true, i_le, i_lt, i_eq, i_eq0, i_lt0, i_0le, i_0lt, i_le0, i_in1, i_cl, nI_add, pk_mul, pk_sub, i_div, i_rem, i_sh1, i_bit, i_or, i_and, i_andn, nt_le, nf_le, nt_lt, nf_lt, nt_eq, nf_eq, not_true_eq_false, and_self, and_false, false_and, eq_self, Bool.toNat_true, Bool.toNat_false, i_bool, i_bool1, Bool.false_eq_true, Bool.true_eq_false, reduceCtorEq, i_neg1, i_neg2, i_neg3, i_neg4, i_neg5, i_neg6, i_neg7, i_neg8, i_neg9, i_nega, i_negb, i_negc, i_max2, i_min2, hp, wi_nil]
        repeat (
          first
          | refine s_X9_odds_0 ?_
          | refine s_X9_odds_7 ?_
          | refine s_X9_odds_17 ?_
          | refine s_X9_odds_24 ?_
          | refine s_X9_odds_25 ?_
          | refine s_X9_odds_28 ?_
          | refine s_X9_odds_35 ?_
          | refine s_X9_odds_44 ?_
          | refine s_X9_odds_62 ?_
          | refine s_X9_odds_79 ?_
          | refine s_X9_odds_104 ?_
          | refine s_X9_odds_132 ?_
          | refine s_X9_odds_139 ?_
          | refine s_X9_odds_146 ?_
          | refine s_X9_odds_157 ?_
          | refine s_X9_odds_159 ?_
          | refine s_X9_odds_168 ?_
          | refine s_X9_odds_175 ?_
          | refine s_X9_odds_181 ?_
          | refine s_X9_odds_189 ?_
          simp (disch := omega) only [B_X9_odds_0, wi_aload_n, wi_iload_n, wi_iconst, wi_invokestatic, B_X9_odds_7, wi_if_eq, wi_bipush, B_X9_odds_17, wi_goto, B_X9_odds_24, B_X9_odds_25, wi_invokevirtual, cnt_8, B_X9_odds_28, wi_istore_n, wi_if_ge, wi_ireturn, B_X9_odds_35, wi_getfield, fldv_8_20, fds_8_20, B_X9_odds_44, wi_istore, wi_lconst, wi_lstore, B_X9_odds_55, wi_iload, B_X9_odds_62, wi_icmp_ge, wi_lload, wi_ldc2_w, wi_lmul, wi_iinc, B_X9_odds_79, B_X9_odds_82, wi_icmp_gt, wi_ixor, wi_iand, wi_if_ne, B_X9_odds_104, wi_icmp_lt, B_X9_odds_114, fldv_8_10, fds_8_10, B_X9_odds_132, B_X9_odds_139, B_X9_odds_146, wi_isub, wi_i2l, B_X9_odds_157, B_X9_odds_159, B_X9_odds_168, wi_ladd, B_X9_odds_175, B_X9_odds_181, B_X9_odds_189, no0, no1, nz1, nz2, nz3, nz4, nz5, nz7, nz8, Classical.not_not, bz0, bz1, wi_nil, ld_0, ld_s, isIv_I, isLv_L, isRv_R, true_and, and_true, lset_0, lset_1, lset_s, avw_I, avw_L, avw_R, clr_cons, clr_nil, kst_0, kst_1, kstL_0, kstL_1, addk_I, pA_0, pA_s, pD_0, pD_s, wid_nil, wid_cons, rcv_c, putv_I, putv_L, List.length_cons, List.length_nil, List.set_cons_zero, List.set_cons_succ, not_false_eq_true, Nat.reduceMod, Nat.reduceDiv, Nat.reduceEqDiff, Nat.reduceLT, Nat.reduceLeDiff, Nat.reduceAdd, Nat.reduceSub, reduceIte, Nat.lt_irrefl, Nat.zero_ne_one, Nat.one_ne_zero, Nat.zero_add, List.nil_append, List.cons_append, Option.toList_some, Option.toList_none, forall_const, false_implies, true_implies, false_or, or_false, true_or, or_true, i_le, i_lt, i_eq, i_eq0, i_lt0, i_0le, i_0lt, i_le0, i_in1, i_cl, nI_add, pk_mul, pk_sub, i_div, i_rem, i_sh1, i_bit, i_or, i_and, i_andn, nt_le, nf_le, nt_lt, nf_lt, nt_eq, nf_eq, not_true_eq_false, and_self, and_false, false_and, eq_self, Bool.toNat_true, Bool.toNat_false, i_bool, i_bool1, Bool.false_eq_true, Bool.true_eq_false, reduceCtorEq, i_neg1, i_neg2, i_neg3, i_neg4, i_neg5, i_neg6, i_neg7, i_neg8, i_neg9, i_nega, i_negb, i_negc, i_max2, i_min2, hp])
        refine c_needK hm2 hn5 e0 ?_
        try simp (disch := omega) only [no0, no1, nz1, nz2, nz3, nz4, nz5, nz7, nz8, Classical.not_not, bz0, bz1, wi_nil, ld_0, ld_s, isIv_I, isLv_L, isRv_R, true_and, and_true, lset_0, lset_1, lset_s, avw_I, avw_L, avw_R, clr_cons, clr_nil, kst_0, kst_1, kstL_0, kstL_1, addk_I, pA_0, pA_s, pD_0, pD_s, wid_nil, wid_cons, rcv_c, putv_I, putv_L, List.length_cons, List.length_nil, List.set_cons_zero, List.set_cons_succ, not_false_eq_true, Nat.reduceMod, Nat.reduceDiv, Nat.reduceEqDiff, Nat.reduceLT, Nat.reduceLeDiff, Nat.reduceAdd, Nat.reduceSub, reduceIte, Nat.lt_irrefl, Nat.zero_ne_one, Nat.one_ne_zero, Nat.zero_add, List.nil_append, List.cons_append, Option.toList_some, Option.toList_none, forall_const, false_implies, true_implies, false_or, or_false, true_or, or_true, i_le, i_lt, i_eq, i_eq0, i_lt0, i_0le, i_0lt, i_le0, i_in1, i_cl, nI_add, pk_mul, pk_sub, i_div, i_rem, i_sh1, i_bit, i_or, i_and, i_andn, nt_le, nf_le, nt_lt, nf_lt, nt_eq, nf_eq, not_true_eq_false, and_self, and_false, false_and, eq_self, Bool.toNat_true, Bool.toNat_false, i_bool, i_bool1, Bool.false_eq_true, Bool.true_eq_false, reduceCtorEq, i_neg1, i_neg2, i_neg3, i_neg4, i_neg5, i_neg6, i_neg7, i_neg8, i_neg9, i_nega, i_negb, i_negc, i_max2, i_min2, wi_nil]
        repeat (
          first
          | refine s_X9_odds_0 ?_
          | refine s_X9_odds_7 ?_
          | refine s_X9_odds_17 ?_
          | refine s_X9_odds_24 ?_
          | refine s_X9_odds_25 ?_
          | refine s_X9_odds_28 ?_
          | refine s_X9_odds_35 ?_
          | refine s_X9_odds_44 ?_
          | refine s_X9_odds_62 ?_
          | refine s_X9_odds_79 ?_
          | refine s_X9_odds_104 ?_
          | refine s_X9_odds_132 ?_
          | refine s_X9_odds_139 ?_
          | refine s_X9_odds_146 ?_
          | refine s_X9_odds_157 ?_
          | refine s_X9_odds_159 ?_
          | refine s_X9_odds_168 ?_
          | refine s_X9_odds_175 ?_
          | refine s_X9_odds_181 ?_
          | refine s_X9_odds_189 ?_
          simp (disch := omega) only [B_X9_odds_0, wi_aload_n, wi_iload_n, wi_iconst, wi_invokestatic, B_X9_odds_7, wi_if_eq, wi_bipush, B_X9_odds_17, wi_goto, B_X9_odds_24, B_X9_odds_25, wi_invokevirtual, cnt_8, B_X9_odds_28, wi_istore_n, wi_if_ge, wi_ireturn, B_X9_odds_35, wi_getfield, fldv_8_20, fds_8_20, B_X9_odds_44, wi_istore, wi_lconst, wi_lstore, B_X9_odds_55, wi_iload, B_X9_odds_62, wi_icmp_ge, wi_lload, wi_ldc2_w, wi_lmul, wi_iinc, B_X9_odds_79, B_X9_odds_82, wi_icmp_gt, wi_ixor, wi_iand, wi_if_ne, B_X9_odds_104, wi_icmp_lt, B_X9_odds_114, fldv_8_10, fds_8_10, B_X9_odds_132, B_X9_odds_139, B_X9_odds_146, wi_isub, wi_i2l, B_X9_odds_157, B_X9_odds_159, B_X9_odds_168, wi_ladd, B_X9_odds_175, B_X9_odds_181, B_X9_odds_189, no0, no1, nz1, nz2, nz3, nz4, nz5, nz7, nz8, Classical.not_not, bz0, bz1, wi_nil, ld_0, ld_s, isIv_I, isLv_L, isRv_R, true_and, and_true, lset_0, lset_1, lset_s, avw_I, avw_L, avw_R, clr_cons, clr_nil, kst_0, kst_1, kstL_0, kstL_1, addk_I, pA_0, pA_s, pD_0, pD_s, wid_nil, wid_cons, rcv_c, putv_I, putv_L, List.length_cons, List.length_nil, List.set_cons_zero, List.set_cons_succ, not_false_eq_true, Nat.reduceMod, Nat.reduceDiv, Nat.reduceEqDiff, Nat.reduceLT, Nat.reduceLeDiff, Nat.reduceAdd, Nat.reduceSub, reduceIte, Nat.lt_irrefl, Nat.zero_ne_one, Nat.one_ne_zero, Nat.zero_add, List.nil_append, List.cons_append, Option.toList_some, Option.toList_none, forall_const, false_implies, true_implies, false_or, or_false, true_or, or_true, i_le, i_lt, i_eq, i_eq0, i_lt0, i_0le, i_0lt, i_le0, i_in1, i_cl, nI_add, pk_mul, pk_sub, i_div, i_rem, i_sh1, i_bit, i_or, i_and, i_andn, nt_le, nf_le, nt_lt, nf_lt, nt_eq, nf_eq, not_true_eq_false, and_self, and_false, false_and, eq_self, Bool.toNat_true, Bool.toNat_false, i_bool, i_bool1, Bool.false_eq_true, Bool.true_eq_false, reduceCtorEq, i_neg1, i_neg2, i_neg3, i_neg4, i_neg5, i_neg6, i_neg7, i_neg8, i_neg9, i_nega, i_negb, i_negc, i_max2, i_min2])
        refine c_byRule (Or.inl rfl) hm2 hok (by decide) (by decide) ?_
        try simp (disch := omega) only [no0, no1, nz1, nz2, nz3, nz4, nz5, nz7, nz8, Classical.not_not, bz0, bz1, wi_nil, ld_0, ld_s, isIv_I, isLv_L, isRv_R, true_and, and_true, lset_0, lset_1, lset_s, avw_I, avw_L, avw_R, clr_cons, clr_nil, kst_0, kst_1, kstL_0, kstL_1, addk_I, pA_0, pA_s, pD_0, pD_s, wid_nil, wid_cons, rcv_c, putv_I, putv_L, List.length_cons, List.length_nil, List.set_cons_zero, List.set_cons_succ, not_false_eq_true, Nat.reduceMod, Nat.reduceDiv, Nat.reduceEqDiff, Nat.reduceLT, Nat.reduceLeDiff, Nat.reduceAdd, Nat.reduceSub, reduceIte, Nat.lt_irrefl, Nat.zero_ne_one, Nat.one_ne_zero, Nat.zero_add, List.nil_append, List.cons_append, Option.toList_some, Option.toList_none, forall_const, false_implies, true_implies, false_or, or_false, true_or, or_true, i_le, i_lt, i_eq, i_eq0, i_lt0, i_0le, i_0lt, i_le0, i_in1, i_cl, nI_add, pk_mul, pk_sub, i_div, i_rem, i_sh1, i_bit, i_or, i_and, i_andn, nt_le, nf_le, nt_lt, nf_lt, nt_eq, nf_eq, not_true_eq_false, and_self, and_false, false_and, eq_self, Bool.toNat_true, Bool.toNat_false, i_bool, i_bool1, Bool.false_eq_true, Bool.true_eq_false, reduceCtorEq, i_neg1, i_neg2, i_neg3, i_neg4, i_neg5, i_neg6, i_neg7, i_neg8, i_neg9, i_nega, i_negb, i_negc, i_max2, i_min2, wi_nil]
        repeat (
          first
          | refine s_X9_odds_0 ?_
          | refine s_X9_odds_7 ?_
          | refine s_X9_odds_17 ?_
          | refine s_X9_odds_24 ?_
          | refine s_X9_odds_25 ?_
          | refine s_X9_odds_28 ?_
          | refine s_X9_odds_35 ?_
          | refine s_X9_odds_44 ?_
          | refine s_X9_odds_62 ?_
          | refine s_X9_odds_79 ?_
          | refine s_X9_odds_104 ?_
          | refine s_X9_odds_132 ?_
          | refine s_X9_odds_139 ?_
          | refine s_X9_odds_146 ?_
          | refine s_X9_odds_157 ?_
          | refine s_X9_odds_159 ?_
          | refine s_X9_odds_168 ?_
          | refine s_X9_odds_175 ?_
          | refine s_X9_odds_181 ?_
          | refine s_X9_odds_189 ?_
          simp (disch := omega) only [B_X9_odds_0, wi_aload_n, wi_iload_n, wi_iconst, wi_invokestatic, B_X9_odds_7, wi_if_eq, wi_bipush, B_X9_odds_17, wi_goto, B_X9_odds_24, B_X9_odds_25, wi_invokevirtual, cnt_8, B_X9_odds_28, wi_istore_n, wi_if_ge, wi_ireturn, B_X9_odds_35, wi_getfield, fldv_8_20, fds_8_20, B_X9_odds_44, wi_istore, wi_lconst, wi_lstore, B_X9_odds_55, wi_iload, B_X9_odds_62, wi_icmp_ge, wi_lload, wi_ldc2_w, wi_lmul, wi_iinc, B_X9_odds_79, B_X9_odds_82, wi_icmp_gt, wi_ixor, wi_iand, wi_if_ne, B_X9_odds_104, wi_icmp_lt, B_X9_odds_114, fldv_8_10, fds_8_10, B_X9_odds_132, B_X9_odds_139, B_X9_odds_146, wi_isub, wi_i2l, B_X9_odds_157, B_X9_odds_159, B_X9_odds_168, wi_ladd, B_X9_odds_175, B_X9_odds_181, B_X9_odds_189, no0, no1, nz1, nz2, nz3, nz4, nz5, nz7, nz8, Classical.not_not, bz0, bz1, wi_nil, ld_0, ld_s, isIv_I, isLv_L, isRv_R, true_and, and_true, lset_0, lset_1, lset_s, avw_I, avw_L, avw_R, clr_cons, clr_nil, kst_0, kst_1, kstL_0, kstL_1, addk_I, pA_0, pA_s, pD_0, pD_s, wid_nil, wid_cons, rcv_c, putv_I, putv_L, List.length_cons, List.length_nil, List.set_cons_zero, List.set_cons_succ, not_false_eq_true, Nat.reduceMod, Nat.reduceDiv, Nat.reduceEqDiff, Nat.reduceLT, Nat.reduceLeDiff, Nat.reduceAdd, Nat.reduceSub, reduceIte, Nat.lt_irrefl, Nat.zero_ne_one, Nat.one_ne_zero, Nat.zero_add, List.nil_append, List.cons_append, Option.toList_some, Option.toList_none, forall_const, false_implies, true_implies, false_or, or_false, true_or, or_true, i_le, i_lt, i_eq, i_eq0, i_lt0, i_0le, i_0lt, i_le0, i_in1, i_cl, nI_add, pk_mul, pk_sub, i_div, i_rem, i_sh1, i_bit, i_or, i_and, i_andn, nt_le, nf_le, nt_lt, nf_lt, nt_eq, nf_eq, not_true_eq_false, and_self, and_false, false_and, eq_self, Bool.toNat_true, Bool.toNat_false, i_bool, i_bool1, Bool.false_eq_true, Bool.true_eq_false, reduceCtorEq, i_neg1, i_neg2, i_neg3, i_neg4, i_neg5, i_neg6, i_neg7, i_neg8, i_neg9, i_nega, i_negb, i_negc, i_max2, i_min2])
        refine l_mwhole hch ?_ (bct (chY Y 0)) 0 (by omega)
        rw [hw]
        try simp (disch := omega) only [no0, no1, nz1, nz2, nz3, nz4, nz5, nz7, nz8, Classical.not_not, bz0, bz1, wi_nil, ld_0, ld_s, isIv_I, isLv_L, isRv_R, true_and, and_true, lset_0, lset_1, lset_s, avw_I, avw_L, avw_R, clr_cons, clr_nil, kst_0, kst_1, kstL_0, kstL_1, addk_I, pA_0, pA_s, pD_0, pD_s, wid_nil, wid_cons, rcv_c, putv_I, putv_L, List.length_cons, List.length_nil, List.set_cons_zero, List.set_cons_succ, not_false_eq_true, Nat.reduceMod, Nat.reduceDiv, Nat.reduceEqDiff, Nat.reduceLT, Nat.reduceLeDiff, Nat.reduceAdd, Nat.reduceSub, reduceIte, Nat.lt_irrefl, Nat.zero_ne_one, Nat.one_ne_zero, Nat.zero_add, List.nil_append, List.cons_append, Option.toList_some, Option.toList_none, forall_const, false_implies, true_implies, false_or, or_false, true_or, or_true, i_le, i_lt, i_eq, i_eq0, i_lt0, i_0le, i_0lt, i_le0, i_in1, i_cl, nI_add, pk_mul, pk_sub, i_div, i_rem, i_sh1, i_bit, i_or, i_and, i_andn, nt_le, nf_le, nt_lt, nf_lt, nt_eq, nf_eq, not_true_eq_false, and_self, and_false, false_and, eq_self, Bool.toNat_true, Bool.toNat_false, i_bool, i_bool1, Bool.false_eq_true, Bool.true_eq_false, reduceCtorEq, i_neg1, i_neg2, i_neg3, i_neg4, i_neg5, i_neg6, i_neg7, i_neg8, i_neg9, i_nega, i_negb, i_negc, i_max2, i_min2, wi_nil]
        repeat (
          first
          | refine s_X9_odds_0 ?_
          | refine s_X9_odds_7 ?_
          | refine s_X9_odds_17 ?_
          | refine s_X9_odds_24 ?_
          | refine s_X9_odds_25 ?_
          | refine s_X9_odds_28 ?_
          | refine s_X9_odds_35 ?_
          | refine s_X9_odds_44 ?_
          | refine s_X9_odds_62 ?_
          | refine s_X9_odds_79 ?_
          | refine s_X9_odds_104 ?_
          | refine s_X9_odds_132 ?_
          | refine s_X9_odds_139 ?_
          | refine s_X9_odds_146 ?_
          | refine s_X9_odds_157 ?_
          | refine s_X9_odds_159 ?_
          | refine s_X9_odds_168 ?_
          | refine s_X9_odds_175 ?_
          | refine s_X9_odds_181 ?_
          | refine s_X9_odds_189 ?_
          simp (disch := omega) only [B_X9_odds_0, wi_aload_n, wi_iload_n, wi_iconst, wi_invokestatic, B_X9_odds_7, wi_if_eq, wi_bipush, B_X9_odds_17, wi_goto, B_X9_odds_24, B_X9_odds_25, wi_invokevirtual, cnt_8, B_X9_odds_28, wi_istore_n, wi_if_ge, wi_ireturn, B_X9_odds_35, wi_getfield, fldv_8_20, fds_8_20, B_X9_odds_44, wi_istore, wi_lconst, wi_lstore, B_X9_odds_55, wi_iload, B_X9_odds_62, wi_icmp_ge, wi_lload, wi_ldc2_w, wi_lmul, wi_iinc, B_X9_odds_79, B_X9_odds_82, wi_icmp_gt, wi_ixor, wi_iand, wi_if_ne, B_X9_odds_104, wi_icmp_lt, B_X9_odds_114, fldv_8_10, fds_8_10, B_X9_odds_132, B_X9_odds_139, B_X9_odds_146, wi_isub, wi_i2l, B_X9_odds_157, B_X9_odds_159, B_X9_odds_168, wi_ladd, B_X9_odds_175, B_X9_odds_181, B_X9_odds_189, no0, no1, nz1, nz2, nz3, nz4, nz5, nz7, nz8, Classical.not_not, bz0, bz1, wi_nil, ld_0, ld_s, isIv_I, isLv_L, isRv_R, true_and, and_true, lset_0, lset_1, lset_s, avw_I, avw_L, avw_R, clr_cons, clr_nil, kst_0, kst_1, kstL_0, kstL_1, addk_I, pA_0, pA_s, pD_0, pD_s, wid_nil, wid_cons, rcv_c, putv_I, putv_L, List.length_cons, List.length_nil, List.set_cons_zero, List.set_cons_succ, not_false_eq_true, Nat.reduceMod, Nat.reduceDiv, Nat.reduceEqDiff, Nat.reduceLT, Nat.reduceLeDiff, Nat.reduceAdd, Nat.reduceSub, reduceIte, Nat.lt_irrefl, Nat.zero_ne_one, Nat.one_ne_zero, Nat.zero_add, List.nil_append, List.cons_append, Option.toList_some, Option.toList_none, forall_const, false_implies, true_implies, false_or, or_false, true_or, or_true, i_le, i_lt, i_eq, i_eq0, i_lt0, i_0le, i_0lt, i_le0, i_in1, i_cl, nI_add, pk_mul, pk_sub, i_div, i_rem, i_sh1, i_bit, i_or, i_and, i_andn, nt_le, nf_le, nt_lt, nf_lt, nt_eq, nf_eq, not_true_eq_false, and_self, and_false, false_and, eq_self, Bool.toNat_true, Bool.toNat_false, i_bool, i_bool1, Bool.false_eq_true, Bool.true_eq_false, reduceCtorEq, i_neg1, i_neg2, i_neg3, i_neg4, i_neg5, i_neg6, i_neg7, i_neg8, i_neg9, i_nega, i_negb, i_negc, i_max2, i_min2])
        refine l_modds (by omega) (by omega) hch (fun i hi => (hcs i hi).1) hm2 hn5 ?_ (chY Y 0 + 1) 0 (by omega)
        rw [hu]
        try simp (disch := omega) only [no0, no1, nz1, nz2, nz3, nz4, nz5, nz7, nz8, Classical.not_not, bz0, bz1, wi_nil, ld_0, ld_s, isIv_I, isLv_L, isRv_R, true_and, and_true, lset_0, lset_1, lset_s, avw_I, avw_L, avw_R, clr_cons, clr_nil, kst_0, kst_1, kstL_0, kstL_1, addk_I, pA_0, pA_s, pD_0, pD_s, wid_nil, wid_cons, rcv_c, putv_I, putv_L, List.length_cons, List.length_nil, List.set_cons_zero, List.set_cons_succ, not_false_eq_true, Nat.reduceMod, Nat.reduceDiv, Nat.reduceEqDiff, Nat.reduceLT, Nat.reduceLeDiff, Nat.reduceAdd, Nat.reduceSub, reduceIte, Nat.lt_irrefl, Nat.zero_ne_one, Nat.one_ne_zero, Nat.zero_add, List.nil_append, List.cons_append, Option.toList_some, Option.toList_none, forall_const, false_implies, true_implies, false_or, or_false, true_or, or_true, i_le, i_lt, i_eq, i_eq0, i_lt0, i_0le, i_0lt, i_le0, i_in1, i_cl, nI_add, pk_mul, pk_sub, i_div, i_rem, i_sh1, i_bit, i_or, i_and, i_andn, nt_le, nf_le, nt_lt, nf_lt, nt_eq, nf_eq, not_true_eq_false, and_self, and_false, false_and, eq_self, Bool.toNat_true, Bool.toNat_false, i_bool, i_bool1, Bool.false_eq_true, Bool.true_eq_false, reduceCtorEq, i_neg1, i_neg2, i_neg3, i_neg4, i_neg5, i_neg6, i_neg7, i_neg8, i_neg9, i_nega, i_negb, i_negc, i_max2, i_min2, wi_nil]
        repeat (
          first
          | refine s_X9_odds_0 ?_
          | refine s_X9_odds_7 ?_
          | refine s_X9_odds_17 ?_
          | refine s_X9_odds_24 ?_
          | refine s_X9_odds_25 ?_
          | refine s_X9_odds_28 ?_
          | refine s_X9_odds_35 ?_
          | refine s_X9_odds_44 ?_
          | refine s_X9_odds_62 ?_
          | refine s_X9_odds_79 ?_
          | refine s_X9_odds_104 ?_
          | refine s_X9_odds_132 ?_
          | refine s_X9_odds_139 ?_
          | refine s_X9_odds_146 ?_
          | refine s_X9_odds_157 ?_
          | refine s_X9_odds_159 ?_
          | refine s_X9_odds_168 ?_
          | refine s_X9_odds_175 ?_
          | refine s_X9_odds_181 ?_
          | refine s_X9_odds_189 ?_
          simp (disch := omega) only [B_X9_odds_0, wi_aload_n, wi_iload_n, wi_iconst, wi_invokestatic, B_X9_odds_7, wi_if_eq, wi_bipush, B_X9_odds_17, wi_goto, B_X9_odds_24, B_X9_odds_25, wi_invokevirtual, cnt_8, B_X9_odds_28, wi_istore_n, wi_if_ge, wi_ireturn, B_X9_odds_35, wi_getfield, fldv_8_20, fds_8_20, B_X9_odds_44, wi_istore, wi_lconst, wi_lstore, B_X9_odds_55, wi_iload, B_X9_odds_62, wi_icmp_ge, wi_lload, wi_ldc2_w, wi_lmul, wi_iinc, B_X9_odds_79, B_X9_odds_82, wi_icmp_gt, wi_ixor, wi_iand, wi_if_ne, B_X9_odds_104, wi_icmp_lt, B_X9_odds_114, fldv_8_10, fds_8_10, B_X9_odds_132, B_X9_odds_139, B_X9_odds_146, wi_isub, wi_i2l, B_X9_odds_157, B_X9_odds_159, B_X9_odds_168, wi_ladd, B_X9_odds_175, B_X9_odds_181, B_X9_odds_189, no0, no1, nz1, nz2, nz3, nz4, nz5, nz7, nz8, Classical.not_not, bz0, bz1, wi_nil, ld_0, ld_s, isIv_I, isLv_L, isRv_R, true_and, and_true, lset_0, lset_1, lset_s, avw_I, avw_L, avw_R, clr_cons, clr_nil, kst_0, kst_1, kstL_0, kstL_1, addk_I, pA_0, pA_s, pD_0, pD_s, wid_nil, wid_cons, rcv_c, putv_I, putv_L, List.length_cons, List.length_nil, List.set_cons_zero, List.set_cons_succ, not_false_eq_true, Nat.reduceMod, Nat.reduceDiv, Nat.reduceEqDiff, Nat.reduceLT, Nat.reduceLeDiff, Nat.reduceAdd, Nat.reduceSub, reduceIte, Nat.lt_irrefl, Nat.zero_ne_one, Nat.one_ne_zero, Nat.zero_add, List.nil_append, List.cons_append, Option.toList_some, Option.toList_none, forall_const, false_implies, true_implies, false_or, or_false, true_or, or_true, i_le, i_lt, i_eq, i_eq0, i_lt0, i_0le, i_0lt, i_le0, i_in1, i_cl, nI_add, pk_mul, pk_sub, i_div, i_rem, i_sh1, i_bit, i_or, i_and, i_andn, nt_le, nf_le, nt_lt, nf_lt, nt_eq, nf_eq, not_true_eq_false, and_self, and_false, false_and, eq_self, Bool.toNat_true, Bool.toNat_false, i_bool, i_bool1, Bool.false_eq_true, Bool.true_eq_false, reduceCtorEq, i_neg1, i_neg2, i_neg3, i_neg4, i_neg5, i_neg6, i_neg7, i_neg8, i_neg9, i_nega, i_negb, i_negc, i_max2, i_min2])
        refine c_fraction (by omega) hpw0 (by omega) ?_
        try simp (disch := omega) only [no0, no1, nz1, nz2, nz3, nz4, nz5, nz7, nz8, Classical.not_not, bz0, bz1, wi_nil, ld_0, ld_s, isIv_I, isLv_L, isRv_R, true_and, and_true, lset_0, lset_1, lset_s, avw_I, avw_L, avw_R, clr_cons, clr_nil, kst_0, kst_1, kstL_0, kstL_1, addk_I, pA_0, pA_s, pD_0, pD_s, wid_nil, wid_cons, rcv_c, putv_I, putv_L, List.length_cons, List.length_nil, List.set_cons_zero, List.set_cons_succ, not_false_eq_true, Nat.reduceMod, Nat.reduceDiv, Nat.reduceEqDiff, Nat.reduceLT, Nat.reduceLeDiff, Nat.reduceAdd, Nat.reduceSub, reduceIte, Nat.lt_irrefl, Nat.zero_ne_one, Nat.one_ne_zero, Nat.zero_add, List.nil_append, List.cons_append, Option.toList_some, Option.toList_none, forall_const, false_implies, true_implies, false_or, or_false, true_or, or_true, i_le, i_lt, i_eq, i_eq0, i_lt0, i_0le, i_0lt, i_le0, i_in1, i_cl, nI_add, pk_mul, pk_sub, i_div, i_rem, i_sh1, i_bit, i_or, i_and, i_andn, nt_le, nf_le, nt_lt, nf_lt, nt_eq, nf_eq, not_true_eq_false, and_self, and_false, false_and, eq_self, Bool.toNat_true, Bool.toNat_false, i_bool, i_bool1, Bool.false_eq_true, Bool.true_eq_false, reduceCtorEq, i_neg1, i_neg2, i_neg3, i_neg4, i_neg5, i_neg6, i_neg7, i_neg8, i_neg9, i_nega, i_negb, i_negc, i_max2, i_min2, wi_nil]
        repeat (
          first
          | refine s_X9_odds_0 ?_
          | refine s_X9_odds_7 ?_
          | refine s_X9_odds_17 ?_
          | refine s_X9_odds_24 ?_
          | refine s_X9_odds_25 ?_
          | refine s_X9_odds_28 ?_
          | refine s_X9_odds_35 ?_
          | refine s_X9_odds_44 ?_
          | refine s_X9_odds_62 ?_
          | refine s_X9_odds_79 ?_
          | refine s_X9_odds_104 ?_
          | refine s_X9_odds_132 ?_
          | refine s_X9_odds_139 ?_
          | refine s_X9_odds_146 ?_
          | refine s_X9_odds_157 ?_
          | refine s_X9_odds_159 ?_
          | refine s_X9_odds_168 ?_
          | refine s_X9_odds_175 ?_
          | refine s_X9_odds_181 ?_
          | refine s_X9_odds_189 ?_
          simp (disch := omega) only [B_X9_odds_0, wi_aload_n, wi_iload_n, wi_iconst, wi_invokestatic, B_X9_odds_7, wi_if_eq, wi_bipush, B_X9_odds_17, wi_goto, B_X9_odds_24, B_X9_odds_25, wi_invokevirtual, cnt_8, B_X9_odds_28, wi_istore_n, wi_if_ge, wi_ireturn, B_X9_odds_35, wi_getfield, fldv_8_20, fds_8_20, B_X9_odds_44, wi_istore, wi_lconst, wi_lstore, B_X9_odds_55, wi_iload, B_X9_odds_62, wi_icmp_ge, wi_lload, wi_ldc2_w, wi_lmul, wi_iinc, B_X9_odds_79, B_X9_odds_82, wi_icmp_gt, wi_ixor, wi_iand, wi_if_ne, B_X9_odds_104, wi_icmp_lt, B_X9_odds_114, fldv_8_10, fds_8_10, B_X9_odds_132, B_X9_odds_139, B_X9_odds_146, wi_isub, wi_i2l, B_X9_odds_157, B_X9_odds_159, B_X9_odds_168, wi_ladd, B_X9_odds_175, B_X9_odds_181, B_X9_odds_189, no0, no1, nz1, nz2, nz3, nz4, nz5, nz7, nz8, Classical.not_not, bz0, bz1, wi_nil, ld_0, ld_s, isIv_I, isLv_L, isRv_R, true_and, and_true, lset_0, lset_1, lset_s, avw_I, avw_L, avw_R, clr_cons, clr_nil, kst_0, kst_1, kstL_0, kstL_1, addk_I, pA_0, pA_s, pD_0, pD_s, wid_nil, wid_cons, rcv_c, putv_I, putv_L, List.length_cons, List.length_nil, List.set_cons_zero, List.set_cons_succ, not_false_eq_true, Nat.reduceMod, Nat.reduceDiv, Nat.reduceEqDiff, Nat.reduceLT, Nat.reduceLeDiff, Nat.reduceAdd, Nat.reduceSub, reduceIte, Nat.lt_irrefl, Nat.zero_ne_one, Nat.one_ne_zero, Nat.zero_add, List.nil_append, List.cons_append, Option.toList_some, Option.toList_none, forall_const, false_implies, true_implies, false_or, or_false, true_or, or_true, i_le, i_lt, i_eq, i_eq0, i_lt0, i_0le, i_0lt, i_le0, i_in1, i_cl, nI_add, pk_mul, pk_sub, i_div, i_rem, i_sh1, i_bit, i_or, i_and, i_andn, nt_le, nf_le, nt_lt, nf_lt, nt_eq, nf_eq, not_true_eq_false, and_self, and_false, false_and, eq_self, Bool.toNat_true, Bool.toNat_false, i_bool, i_bool1, Bool.false_eq_true, Bool.true_eq_false, reduceCtorEq, i_neg1, i_neg2, i_neg3, i_neg4, i_neg5, i_neg6, i_neg7, i_neg8, i_neg9, i_nega, i_negb, i_negc, i_max2, i_min2])
        exact pm (r_share (rr_fs h (fs_26 (j := 1) (r := g))) Fr.refl)
end
