-- PART 21: Share, Acts, following acts
theorem l0 : (0 : Int64) = lN 0 := by decide +kernel
theorem lN_ne0 {r : Nat} (h0 : 0 < r) (h : r < 2 ^ 62) : ¬ lN r = 0 := by
  rw [l0, pk_lEQ (by omega) (by decide)]
  omega
theorem gcd_step {c r : Nat} : Nat.gcd r (c % r) = Nat.gcd c r := by
  rw [Nat.gcd_comm c r, Nat.gcd_rec r c, Nat.gcd_comm]
theorem mod_half {c r m : Nat} (hr : 0 < r) (h : r < 2 ^ (m + 1)) (h2 : 0 < c % r) : r % (c % r) < 2 ^ m := by
  rw [Nat.pow_succ] at h
  have h3 := Nat.mod_lt c hr
  have h4 := Nat.mod_lt r h2
  rcases Nat.lt_or_ge (c % r) (2 ^ m) with q | q
  · omega
  · have e : r % (c % r) = r - c % r := by
      rw [Nat.mod_eq_sub_mod (Nat.le_of_lt h3), Nat.mod_eq_of_lt (by omega)]
    omega
section
variable {d : Nat} {S : MS} {P : Option AV → MS → Prop}
theorem l_red0 {u l c k : Nat} (hu : u < 2 ^ 60) (hl : l < 2 ^ 60) (hc0 : 0 < c) (hc : c < 2 ^ 60) (hk : k ≤ 100) (q : P none (sL (sL S 4 0 0 (lN (u / c))) 4 0 1 (lN (l / c)))) : wpX d mX5_reduce 9 [aR 4 0, aL (lN u), aU, aL (lN l), aU, aL (lN c), aU, aL (lN 0), aU, aI (nI k), aU, aU] [] S P := by
  have fin : wpX d mX5_reduce 44 [aR 4 0, aL (lN u), aU, aL (lN l), aU, aL (lN c), aU, aU, aU, aU, aU, aU] [] S P := by
    refine s_X5_reduce_44 ?_
    simp only [B_X5_reduce_44, wi_lload, wi_lconst, wi_lcmp, wi_if_le, wi_aload_n, wi_lload_n, wi_ldiv, wi_putfield, pOk_4_0, cnt_4, pOk_4_1, no0, no1, nz1, nz2, nz3, nz4, nz5, nz7, nz8, Classical.not_not, bz0, bz1, wi_nil, ld_0, ld_s, isIv_I, isLv_L, isRv_R, true_and, and_true, lset_0, lset_1, lset_s, avw_I, avw_L, avw_R, clr_cons, clr_nil, kst_0, kst_1, kstL_0, kstL_1, addk_I, pA_0, pA_s, pD_0, pD_s, wid_nil, wid_cons, rcv_c, putv_I, putv_L, List.length_cons, List.length_nil, List.set_cons_zero, List.set_cons_succ, not_false_eq_true, Nat.reduceMod, Nat.reduceDiv, Nat.reduceEqDiff, Nat.reduceLT, Nat.reduceLeDiff, Nat.reduceAdd, Nat.reduceSub, reduceIte, Nat.lt_irrefl, Nat.zero_ne_one, Nat.one_ne_zero, Nat.zero_add, List.nil_append, List.cons_append, Option.toList_some, Option.toList_none, forall_const, false_implies, true_implies, false_or, or_false, true_or, or_true]
    rw [lg_cmp_le, pk_lLE (by omega) (by omega), pk_lDiv (by omega) hc0 (by omega), pk_lDiv (by omega) hc0 (by omega)]
    refine ⟨fun h => absurd h (by omega), fun _ => ⟨lN_ne0 hc0 (by omega), lN_ne0 hc0 (by omega), ?_⟩⟩
    refine s_X5_reduce_67 ?_
    simp only [B_X5_reduce_67, wi_return_, no0, no1, nz1, nz2, nz3, nz4, nz5, nz7, nz8, Classical.not_not, bz0, bz1, wi_nil, ld_0, ld_s, isIv_I, isLv_L, isRv_R, true_and, and_true, lset_0, lset_1, lset_s, avw_I, avw_L, avw_R, clr_cons, clr_nil, kst_0, kst_1, kstL_0, kstL_1, addk_I, pA_0, pA_s, pD_0, pD_s, wid_nil, wid_cons, rcv_c, putv_I, putv_L, List.length_cons, List.length_nil, List.set_cons_zero, List.set_cons_succ, not_false_eq_true, Nat.reduceMod, Nat.reduceDiv, Nat.reduceEqDiff, Nat.reduceLT, Nat.reduceLeDiff, Nat.reduceAdd, Nat.reduceSub, reduceIte, Nat.lt_irrefl, Nat.zero_ne_one, Nat.one_ne_zero, Nat.zero_add, List.nil_append, List.cons_append, Option.toList_some, Option.toList_none, forall_const, false_implies, true_implies, false_or, or_false, true_or, or_true]
    exact q
  refine s_X5_reduce_9 ?_
  simp only [B_X5_reduce_9, wi_iload, wi_bipush, wi_icmp_ge, wi_lload, wi_lconst, wi_lcmp, wi_if_le, wi_lrem, wi_lstore, wi_iinc, wi_goto, no0, no1, nz1, nz2, nz3, nz4, nz5, nz7, nz8, Classical.not_not, bz0, bz1, wi_nil, ld_0, ld_s, isIv_I, isLv_L, isRv_R, true_and, and_true, lset_0, lset_1, lset_s, avw_I, avw_L, avw_R, clr_cons, clr_nil, kst_0, kst_1, kstL_0, kstL_1, addk_I, pA_0, pA_s, pD_0, pD_s, wid_nil, wid_cons, rcv_c, putv_I, putv_L, List.length_cons, List.length_nil, List.set_cons_zero, List.set_cons_succ, not_false_eq_true, Nat.reduceMod, Nat.reduceDiv, Nat.reduceEqDiff, Nat.reduceLT, Nat.reduceLeDiff, Nat.reduceAdd, Nat.reduceSub, reduceIte, Nat.lt_irrefl, Nat.zero_ne_one, Nat.one_ne_zero, Nat.zero_add, List.nil_append, List.cons_append, Option.toList_some, Option.toList_none, forall_const, false_implies, true_implies, false_or, or_false, true_or, or_true]
  rw [i_le (by decide) (by omega), lg_cmp_le, pk_lLE (by omega) (by omega)]
  exact ⟨fun _ => fin, fun _ => ⟨fun _ => fin, fun h => absurd (Nat.le_refl 0) h⟩⟩
theorem l_red1 {u l c r k : Nat} (hr0 : 0 < r) (hr : r < 2 ^ 60) (hc : c < 2 ^ 60) (hk : k < 100) (q : wpX d mX5_reduce 9 [aR 4 0, aL (lN u), aU, aL (lN l), aU, aL (lN r), aU, aL (lN (c % r)), aU, aI (nI (k + 1)), aU, aU] [] S P) : wpX d mX5_reduce 9 [aR 4 0, aL (lN u), aU, aL (lN l), aU, aL (lN c), aU, aL (lN r), aU, aI (nI k), aU, aU] [] S P := by
  refine s_X5_reduce_9 ?_
  simp only [B_X5_reduce_9, wi_iload, wi_bipush, wi_icmp_ge, wi_lload, wi_lconst, wi_lcmp, wi_if_le, wi_lrem, wi_lstore, wi_iinc, wi_goto, no0, no1, nz1, nz2, nz3, nz4, nz5, nz7, nz8, Classical.not_not, bz0, bz1, wi_nil, ld_0, ld_s, isIv_I, isLv_L, isRv_R, true_and, and_true, lset_0, lset_1, lset_s, avw_I, avw_L, avw_R, clr_cons, clr_nil, kst_0, kst_1, kstL_0, kstL_1, addk_I, pA_0, pA_s, pD_0, pD_s, wid_nil, wid_cons, rcv_c, putv_I, putv_L, List.length_cons, List.length_nil, List.set_cons_zero, List.set_cons_succ, not_false_eq_true, Nat.reduceMod, Nat.reduceDiv, Nat.reduceEqDiff, Nat.reduceLT, Nat.reduceLeDiff, Nat.reduceAdd, Nat.reduceSub, reduceIte, Nat.lt_irrefl, Nat.zero_ne_one, Nat.one_ne_zero, Nat.zero_add, List.nil_append, List.cons_append, Option.toList_some, Option.toList_none, forall_const, false_implies, true_implies, false_or, or_false, true_or, or_true]
  rw [i_le (by decide) (by omega), lg_cmp_le, pk_lLE (by omega) (by omega), pk_lRem (by omega) hr0 (by omega), nI_add]
  exact ⟨fun h => absurd h (by omega), fun _ => ⟨fun h => absurd h (by omega), fun _ => ⟨lN_ne0 hr0 (by omega), q⟩⟩⟩
theorem l_red {u l : Nat} (hu : u < 2 ^ 60) (hl0 : 0 < l) (hl : l < 2 ^ 60) (q : P none (sL (sL S 4 0 0 (lN (u / Nat.gcd u l))) 4 0 1 (lN (l / Nat.gcd u l)))) : ∀ (m k c r : Nat), r < 2 ^ m → k + 2 * m ≤ 100 → c < 2 ^ 60 → r < 2 ^ 60 → Nat.gcd c r = Nat.gcd u l → wpX d mX5_reduce 9 [aR 4 0, aL (lN u), aU, aL (lN l), aU, aL (lN c), aU, aL (lN r), aU, aI (nI k), aU, aU] [] S P := by
  have hg : 0 < Nat.gcd u l := Nat.gcd_pos_of_pos_right u hl0
  have ex : ∀ k c, k ≤ 100 → c < 2 ^ 60 → Nat.gcd c 0 = Nat.gcd u l → wpX d mX5_reduce 9 [aR 4 0, aL (lN u), aU, aL (lN l), aU, aL (lN c), aU, aL (lN 0), aU, aI (nI k), aU, aU] [] S P := by
    intro k c hk hc hgc
    rw [Nat.gcd_zero_right] at hgc
    exact l_red0 hu hl (by omega) hc hk (by rw [hgc]; exact q)
  intro m
  induction m with
  | zero =>
    intro k c r hr hk hc hr60 hgc
    have e : r = 0 := by rw [Nat.pow_zero] at hr; omega
    subst e
    exact ex k c (by omega) hc hgc
  | succ m ih =>
    intro k c r hr hk hc hr60 hgc
    rcases Nat.eq_zero_or_pos r with e | h0
    · subst e
      exact ex k c (by omega) hc hgc
    · refine l_red1 h0 hr60 hc (by omega) ?_
      have hm := Nat.mod_lt c h0
      have hg2 : Nat.gcd r (c % r) = Nat.gcd u l := by rw [gcd_step]; exact hgc
      rcases Nat.eq_zero_or_pos (c % r) with e | h1
      · rw [e] at hg2 ⊢
        exact ex (k + 1) r (by omega) hr60 hg2
      · refine l_red1 h1 (by omega) hr60 (by omega) ?_
        have hm2 := Nat.mod_lt r h1
        exact ih (k + 1 + 1) (c % r) (r % (c % r)) (mod_half h0 hr h1) (by omega) (by omega) (by omega) (by rw [gcd_step]; exact hg2)
theorem c_reduce {u l : Nat} (hu : u < 2 ^ 40) (hl0 : 0 < l) (hl : l < 2 ^ 40) (q : P none (sL (sL S 4 0 0 (lN (u / Nat.gcd u l))) 4 0 1 (lN (l / Nat.gcd u l)))) : wpM (d + 1) mX5_reduce [aR 4 0, aL (lN u), aL (lN l)] S P := by
  refine x_entry (ls2 := [aR 4 0, aL (lN u), aU, aL (lN l), aU, aU, aU, aU, aU, aU, aU, aU]) (Nat.le_of_ble_eq_true rfl) pl_5 rfl (Nat.le_of_ble_eq_true rfl) ?_
  refine s_X5_reduce_0 ?_
  simp only [B_X5_reduce_0, wi_lload_n, wi_lstore, wi_iconst, wi_istore, no0, no1, nz1, nz2, nz3, nz4, nz5, nz7, nz8, Classical.not_not, bz0, bz1, wi_nil, ld_0, ld_s, isIv_I, isLv_L, isRv_R, true_and, and_true, lset_0, lset_1, lset_s, avw_I, avw_L, avw_R, clr_cons, clr_nil, kst_0, kst_1, kstL_0, kstL_1, addk_I, pA_0, pA_s, pD_0, pD_s, wid_nil, wid_cons, rcv_c, putv_I, putv_L, List.length_cons, List.length_nil, List.set_cons_zero, List.set_cons_succ, not_false_eq_true, Nat.reduceMod, Nat.reduceDiv, Nat.reduceEqDiff, Nat.reduceLT, Nat.reduceLeDiff, Nat.reduceAdd, Nat.reduceSub, reduceIte, Nat.lt_irrefl, Nat.zero_ne_one, Nat.one_ne_zero, Nat.zero_add, List.nil_append, List.cons_append, Option.toList_some, Option.toList_none, forall_const, false_implies, true_implies, false_or, or_false, true_or, or_true]
  exact l_red (by omega) hl0 (by omega) q 40 0 l u hu (by decide) (by omega) (by omega) (Nat.gcd_comm l u)
-- acts as numbers: (what * 64 + first) * 64 + second
def aW (p : Nat) : Nat := p / 4096
def aA (p : Nat) : Nat := p / 64 % 64
def aB (p : Nat) : Nat := p % 64
def pkN (w a b : Nat) : Nat := (w * 64 + a) * 64 + b
theorem pkN_dec {w a b : Nat} (ha : a < 64) (hb : b < 64) : aW (pkN w a b) = w ∧ aA (pkN w a b) = a ∧ aB (pkN w a b) = b := by
  unfold aW aA aB pkN
  omega
theorem i_shr6 {p : Nat} (h : p < 2 ^ 30) : nI p >>> (nI 6 &&& 31) = nI (p / 64) := pk_shrN (by omega) (nI 6 &&& 31) 6 (by decide +kernel)
theorem i_shl6 {p : Nat} (h : p < 2 ^ 20) : nI p <<< (nI 6 &&& 31) = nI (p * 64) := pk_shlN (nI 6 &&& 31) 6 (by decide +kernel) (by omega)
theorem i_and63 {p : Nat} (h : p < 2 ^ 30) : nI p &&& nI 63 = nI (p % 64) := pk_andN (by omega) 6 (by decide +kernel)
theorem i_or64 {a b : Nat} (h : a < 64) : nI (b * 64) ||| nI a = nI (b * 64 + a) := by
  have := fa_or_sum (k := 6) b h
  rw [show 2 ^ 6 * b = b * 64 by omega] at this
  exact this
theorem c_pack {w a b : Nat} (hw : w < 4) (ha : a < 64) (hb : b < 64) (q : P (some (aI (nI (pkN w a b)))) S) : wpM (d + 1) mX0_pack [aI (nI w), aI (nI a), aI (nI b)] S P := by
  refine x_entry (ls2 := [aI (nI w), aI (nI a), aI (nI b)]) (Nat.le_of_ble_eq_true rfl) pl_0 rfl (Nat.le_of_ble_eq_true rfl) ?_
  refine s_X0_pack_0 ?_
  simp only [B_X0_pack_0, wi_iload_n, wi_bipush, wi_ishl, wi_ior, wi_ireturn, no0, no1, nz1, nz2, nz3, nz4, nz5, nz7, nz8, Classical.not_not, bz0, bz1, wi_nil, ld_0, ld_s, isIv_I, isLv_L, isRv_R, true_and, and_true, lset_0, lset_1, lset_s, avw_I, avw_L, avw_R, clr_cons, clr_nil, kst_0, kst_1, kstL_0, kstL_1, addk_I, pA_0, pA_s, pD_0, pD_s, wid_nil, wid_cons, rcv_c, putv_I, putv_L, List.length_cons, List.length_nil, List.set_cons_zero, List.set_cons_succ, not_false_eq_true, Nat.reduceMod, Nat.reduceDiv, Nat.reduceEqDiff, Nat.reduceLT, Nat.reduceLeDiff, Nat.reduceAdd, Nat.reduceSub, reduceIte, Nat.lt_irrefl, Nat.zero_ne_one, Nat.one_ne_zero, Nat.zero_add, List.nil_append, List.cons_append, Option.toList_some, Option.toList_none, forall_const, false_implies, true_implies, false_or, or_false, true_or, or_true]
  rw [i_shl6 (by omega), i_or64 ha, i_shl6 (by omega), i_or64 hb]
  exact q
theorem c_whatOf {p : Nat} (h : p < 2 ^ 20) (q : P (some (aI (nI (aW p)))) S) : wpM (d + 1) mX0_whatOf [aI (nI p)] S P := by
  refine x_entry (ls2 := [aI (nI p)]) (Nat.le_of_ble_eq_true rfl) pl_0 rfl (Nat.le_of_ble_eq_true rfl) ?_
  refine s_X0_whatOf_0 ?_
  simp only [B_X0_whatOf_0, wi_iload_n, wi_bipush, wi_ishr, wi_ireturn, no0, no1, nz1, nz2, nz3, nz4, nz5, nz7, nz8, Classical.not_not, bz0, bz1, wi_nil, ld_0, ld_s, isIv_I, isLv_L, isRv_R, true_and, and_true, lset_0, lset_1, lset_s, avw_I, avw_L, avw_R, clr_cons, clr_nil, kst_0, kst_1, kstL_0, kstL_1, addk_I, pA_0, pA_s, pD_0, pD_s, wid_nil, wid_cons, rcv_c, putv_I, putv_L, List.length_cons, List.length_nil, List.set_cons_zero, List.set_cons_succ, not_false_eq_true, Nat.reduceMod, Nat.reduceDiv, Nat.reduceEqDiff, Nat.reduceLT, Nat.reduceLeDiff, Nat.reduceAdd, Nat.reduceSub, reduceIte, Nat.lt_irrefl, Nat.zero_ne_one, Nat.one_ne_zero, Nat.zero_add, List.nil_append, List.cons_append, Option.toList_some, Option.toList_none, forall_const, false_implies, true_implies, false_or, or_false, true_or, or_true]
  rw [i_shr6 (by omega), i_shr6 (by omega), show p / 64 / 64 = p / 4096 by omega]
  exact q
theorem c_firstOf {p : Nat} (h : p < 2 ^ 20) (q : P (some (aI (nI (aA p)))) S) : wpM (d + 1) mX0_firstOf [aI (nI p)] S P := by
  refine x_entry (ls2 := [aI (nI p)]) (Nat.le_of_ble_eq_true rfl) pl_0 rfl (Nat.le_of_ble_eq_true rfl) ?_
  refine s_X0_firstOf_0 ?_
  simp only [B_X0_firstOf_0, wi_iload_n, wi_bipush, wi_ishr, wi_iand, wi_ireturn, no0, no1, nz1, nz2, nz3, nz4, nz5, nz7, nz8, Classical.not_not, bz0, bz1, wi_nil, ld_0, ld_s, isIv_I, isLv_L, isRv_R, true_and, and_true, lset_0, lset_1, lset_s, avw_I, avw_L, avw_R, clr_cons, clr_nil, kst_0, kst_1, kstL_0, kstL_1, addk_I, pA_0, pA_s, pD_0, pD_s, wid_nil, wid_cons, rcv_c, putv_I, putv_L, List.length_cons, List.length_nil, List.set_cons_zero, List.set_cons_succ, not_false_eq_true, Nat.reduceMod, Nat.reduceDiv, Nat.reduceEqDiff, Nat.reduceLT, Nat.reduceLeDiff, Nat.reduceAdd, Nat.reduceSub, reduceIte, Nat.lt_irrefl, Nat.zero_ne_one, Nat.one_ne_zero, Nat.zero_add, List.nil_append, List.cons_append, Option.toList_some, Option.toList_none, forall_const, false_implies, true_implies, false_or, or_false, true_or, or_true]
  rw [i_shr6 (by omega), i_and63 (by omega)]
  exact q
theorem c_secondOf {p : Nat} (h : p < 2 ^ 20) (q : P (some (aI (nI (aB p)))) S) : wpM (d + 1) mX0_secondOf [aI (nI p)] S P := by
  refine x_entry (ls2 := [aI (nI p)]) (Nat.le_of_ble_eq_true rfl) pl_0 rfl (Nat.le_of_ble_eq_true rfl) ?_
  refine s_X0_secondOf_0 ?_
  simp only [B_X0_secondOf_0, wi_iload_n, wi_bipush, wi_iand, wi_ireturn, no0, no1, nz1, nz2, nz3, nz4, nz5, nz7, nz8, Classical.not_not, bz0, bz1, wi_nil, ld_0, ld_s, isIv_I, isLv_L, isRv_R, true_and, and_true, lset_0, lset_1, lset_s, avw_I, avw_L, avw_R, clr_cons, clr_nil, kst_0, kst_1, kstL_0, kstL_1, addk_I, pA_0, pA_s, pD_0, pD_s, wid_nil, wid_cons, rcv_c, putv_I, putv_L, List.length_cons, List.length_nil, List.set_cons_zero, List.set_cons_succ, not_false_eq_true, Nat.reduceMod, Nat.reduceDiv, Nat.reduceEqDiff, Nat.reduceLT, Nat.reduceLeDiff, Nat.reduceAdd, Nat.reduceSub, reduceIte, Nat.lt_irrefl, Nat.zero_ne_one, Nat.one_ne_zero, Nat.zero_add, List.nil_append, List.cons_append, Option.toList_some, Option.toList_none, forall_const, false_implies, true_implies, false_or, or_false, true_or, or_true]
  rw [i_and63 (by omega)]
  exact q
theorem c_haveRoom {L m : Nat} (hL : gI S 0 0 3 = nI L) (hL4 : L ≤ 40) (hm : m < 1000) (q : P (some (aI (nI (if L + m ≤ 40 then 1 else 0)))) S) : wpM (d + 1) mX0_haveRoom [aR 0 0, aI (nI m)] S P := by
  refine x_entry (ls2 := [aR 0 0, aI (nI m)]) (Nat.le_of_ble_eq_true rfl) pl_0 rfl (Nat.le_of_ble_eq_true rfl) ?_
  refine s_X0_haveRoom_0 ?_
  simp only [B_X0_haveRoom_0, wi_aload_n, wi_getfield, fldv_0_3, fds_0_3, cnt_0, wi_iload_n, wi_iadd, wi_bipush, wi_icmp_gt, wi_iconst, wi_goto, no0, no1, nz1, nz2, nz3, nz4, nz5, nz7, nz8, Classical.not_not, bz0, bz1, wi_nil, ld_0, ld_s, isIv_I, isLv_L, isRv_R, true_and, and_true, lset_0, lset_1, lset_s, avw_I, avw_L, avw_R, clr_cons, clr_nil, kst_0, kst_1, kstL_0, kstL_1, addk_I, pA_0, pA_s, pD_0, pD_s, wid_nil, wid_cons, rcv_c, putv_I, putv_L, List.length_cons, List.length_nil, List.set_cons_zero, List.set_cons_succ, not_false_eq_true, Nat.reduceMod, Nat.reduceDiv, Nat.reduceEqDiff, Nat.reduceLT, Nat.reduceLeDiff, Nat.reduceAdd, Nat.reduceSub, reduceIte, Nat.lt_irrefl, Nat.zero_ne_one, Nat.one_ne_zero, Nat.zero_add, List.nil_append, List.cons_append, Option.toList_some, Option.toList_none, forall_const, false_implies, true_implies, false_or, or_false, true_or, or_true]
  rw [hL, nI_add, i_lt (by decide) (by omega)]
  refine ⟨fun h => ?_, fun h => ?_⟩
  · refine s_X0_haveRoom_15 ?_
    simp only [B_X0_haveRoom_15, wi_iconst, no0, no1, nz1, nz2, nz3, nz4, nz5, nz7, nz8, Classical.not_not, bz0, bz1, wi_nil, ld_0, ld_s, isIv_I, isLv_L, isRv_R, true_and, and_true, lset_0, lset_1, lset_s, avw_I, avw_L, avw_R, clr_cons, clr_nil, kst_0, kst_1, kstL_0, kstL_1, addk_I, pA_0, pA_s, pD_0, pD_s, wid_nil, wid_cons, rcv_c, putv_I, putv_L, List.length_cons, List.length_nil, List.set_cons_zero, List.set_cons_succ, not_false_eq_true, Nat.reduceMod, Nat.reduceDiv, Nat.reduceEqDiff, Nat.reduceLT, Nat.reduceLeDiff, Nat.reduceAdd, Nat.reduceSub, reduceIte, Nat.lt_irrefl, Nat.zero_ne_one, Nat.one_ne_zero, Nat.zero_add, List.nil_append, List.cons_append, Option.toList_some, Option.toList_none, forall_const, false_implies, true_implies, false_or, or_false, true_or, or_true]
    refine s_X0_haveRoom_16 ?_
    simp only [B_X0_haveRoom_16, wi_ireturn, no0, no1, nz1, nz2, nz3, nz4, nz5, nz7, nz8, Classical.not_not, bz0, bz1, wi_nil, ld_0, ld_s, isIv_I, isLv_L, isRv_R, true_and, and_true, lset_0, lset_1, lset_s, avw_I, avw_L, avw_R, clr_cons, clr_nil, kst_0, kst_1, kstL_0, kstL_1, addk_I, pA_0, pA_s, pD_0, pD_s, wid_nil, wid_cons, rcv_c, putv_I, putv_L, List.length_cons, List.length_nil, List.set_cons_zero, List.set_cons_succ, not_false_eq_true, Nat.reduceMod, Nat.reduceDiv, Nat.reduceEqDiff, Nat.reduceLT, Nat.reduceLeDiff, Nat.reduceAdd, Nat.reduceSub, reduceIte, Nat.lt_irrefl, Nat.zero_ne_one, Nat.one_ne_zero, Nat.zero_add, List.nil_append, List.cons_append, Option.toList_some, Option.toList_none, forall_const, false_implies, true_implies, false_or, or_false, true_or, or_true]
    rw [if_neg (by omega)] at q
    exact q
  · refine s_X0_haveRoom_16 ?_
    simp only [B_X0_haveRoom_16, wi_ireturn, no0, no1, nz1, nz2, nz3, nz4, nz5, nz7, nz8, Classical.not_not, bz0, bz1, wi_nil, ld_0, ld_s, isIv_I, isLv_L, isRv_R, true_and, and_true, lset_0, lset_1, lset_s, avw_I, avw_L, avw_R, clr_cons, clr_nil, kst_0, kst_1, kstL_0, kstL_1, addk_I, pA_0, pA_s, pD_0, pD_s, wid_nil, wid_cons, rcv_c, putv_I, putv_L, List.length_cons, List.length_nil, List.set_cons_zero, List.set_cons_succ, not_false_eq_true, Nat.reduceMod, Nat.reduceDiv, Nat.reduceEqDiff, Nat.reduceLT, Nat.reduceLeDiff, Nat.reduceAdd, Nat.reduceSub, reduceIte, Nat.lt_irrefl, Nat.zero_ne_one, Nat.one_ne_zero, Nat.zero_add, List.nil_append, List.cons_append, Option.toList_some, Option.toList_none, forall_const, false_implies, true_implies, false_or, or_false, true_or, or_true]
    rw [if_pos (by omega)] at q
    exact q
theorem c_add {L : Nat} {v : Int32} (hL : gI S 0 0 3 = nI L) (hL4 : L < 40) (q : P none (sI (sA S 10 0 (upd (gA S 10 0) L v)) 0 0 3 (nI (L + 1)))) : wpM (d + 1) mX0_add [aR 0 0, aI v] S P := by
  refine x_entry (ls2 := [aR 0 0, aI v]) (Nat.le_of_ble_eq_true rfl) pl_0 rfl (Nat.le_of_ble_eq_true rfl) ?_
  refine s_X0_add_0 ?_
  simp only [B_X0_add_0, wi_aload_n, wi_getfield, fldv_0_3, fds_0_3, cnt_0, wi_bipush, wi_icmp_ge, fldv_0_0, fds_0_0, wi_iload_n, wi_iastore, wi_dup, wi_iconst, wi_iadd, wi_putfield, pOk_0_3, cnt_10, aTy_10, aLn_10, arr_10, no0, no1, nz1, nz2, nz3, nz4, nz5, nz7, nz8, Classical.not_not, bz0, bz1, wi_nil, ld_0, ld_s, isIv_I, isLv_L, isRv_R, true_and, and_true, lset_0, lset_1, lset_s, avw_I, avw_L, avw_R, clr_cons, clr_nil, kst_0, kst_1, kstL_0, kstL_1, addk_I, pA_0, pA_s, pD_0, pD_s, wid_nil, wid_cons, rcv_c, putv_I, putv_L, List.length_cons, List.length_nil, List.set_cons_zero, List.set_cons_succ, not_false_eq_true, Nat.reduceMod, Nat.reduceDiv, Nat.reduceEqDiff, Nat.reduceLT, Nat.reduceLeDiff, Nat.reduceAdd, Nat.reduceSub, reduceIte, Nat.lt_irrefl, Nat.zero_ne_one, Nat.one_ne_zero, Nat.zero_add, List.nil_append, List.cons_append, Option.toList_some, Option.toList_none, forall_const, false_implies, true_implies, false_or, or_false, true_or, or_true, gI_sI, gI_sL, gI_sA, gL_sI, gL_sL, gL_sA, gA_sI, gA_sL, gA_sA, false_and, and_false, and_self, eq_self, if_true, if_false, sA_sA]
  rw [hL, i_le (by decide) (by omega), nI_add, i_cl (by omega)]
  refine ⟨fun h => absurd h (by omega), fun _ => ⟨i_in hL4 (by decide), ?_⟩⟩
  refine s_X0_add_29 ?_
  simp only [B_X0_add_29, wi_return_, no0, no1, nz1, nz2, nz3, nz4, nz5, nz7, nz8, Classical.not_not, bz0, bz1, wi_nil, ld_0, ld_s, isIv_I, isLv_L, isRv_R, true_and, and_true, lset_0, lset_1, lset_s, avw_I, avw_L, avw_R, clr_cons, clr_nil, kst_0, kst_1, kstL_0, kstL_1, addk_I, pA_0, pA_s, pD_0, pD_s, wid_nil, wid_cons, rcv_c, putv_I, putv_L, List.length_cons, List.length_nil, List.set_cons_zero, List.set_cons_succ, not_false_eq_true, Nat.reduceMod, Nat.reduceDiv, Nat.reduceEqDiff, Nat.reduceLT, Nat.reduceLeDiff, Nat.reduceAdd, Nat.reduceSub, reduceIte, Nat.lt_irrefl, Nat.zero_ne_one, Nat.one_ne_zero, Nat.zero_add, List.nil_append, List.cons_append, Option.toList_some, Option.toList_none, forall_const, false_implies, true_implies, false_or, or_false, true_or, or_true]
  exact q
theorem l_fill2 {v : Int32} : ∀ (n f : Nat) (S : MS), f + n = 3 → P none (sA S 12 0 (fil (gA S 12 0) f 3 v)) → wpX d mJ7_fill_53178 5 [aR 12 0, aI v, aI (nI f), aI (nI 3)] [] S P := by
  intro n
  induction n with
  | zero =>
    intro f S hf q
    refine s_J7_fill_53178_5 ?_
    simp only [B_J7_fill_53178_5, wi_iload_n, wi_icmp_ge, wi_aload_n, wi_iastore, wi_iinc, wi_goto, cnt_12, aTy_12, aLn_12, arr_12, no0, no1, nz1, nz2, nz3, nz4, nz5, nz7, nz8, Classical.not_not, bz0, bz1, wi_nil, ld_0, ld_s, isIv_I, isLv_L, isRv_R, true_and, and_true, lset_0, lset_1, lset_s, avw_I, avw_L, avw_R, clr_cons, clr_nil, kst_0, kst_1, kstL_0, kstL_1, addk_I, pA_0, pA_s, pD_0, pD_s, wid_nil, wid_cons, rcv_c, putv_I, putv_L, List.length_cons, List.length_nil, List.set_cons_zero, List.set_cons_succ, not_false_eq_true, Nat.reduceMod, Nat.reduceDiv, Nat.reduceEqDiff, Nat.reduceLT, Nat.reduceLeDiff, Nat.reduceAdd, Nat.reduceSub, reduceIte, Nat.lt_irrefl, Nat.zero_ne_one, Nat.one_ne_zero, Nat.zero_add, List.nil_append, List.cons_append, Option.toList_some, Option.toList_none, forall_const, false_implies, true_implies, false_or, or_false, true_or, or_true]
    rw [i_le (by omega) (by omega)]
    refine ⟨fun _ => ?_, fun h => absurd (by omega) h⟩
    refine s_J7_fill_53178_20 ?_
    simp only [B_J7_fill_53178_20, wi_return_, no0, no1, nz1, nz2, nz3, nz4, nz5, nz7, nz8, Classical.not_not, bz0, bz1, wi_nil, ld_0, ld_s, isIv_I, isLv_L, isRv_R, true_and, and_true, lset_0, lset_1, lset_s, avw_I, avw_L, avw_R, clr_cons, clr_nil, kst_0, kst_1, kstL_0, kstL_1, addk_I, pA_0, pA_s, pD_0, pD_s, wid_nil, wid_cons, rcv_c, putv_I, putv_L, List.length_cons, List.length_nil, List.set_cons_zero, List.set_cons_succ, not_false_eq_true, Nat.reduceMod, Nat.reduceDiv, Nat.reduceEqDiff, Nat.reduceLT, Nat.reduceLeDiff, Nat.reduceAdd, Nat.reduceSub, reduceIte, Nat.lt_irrefl, Nat.zero_ne_one, Nat.one_ne_zero, Nat.zero_add, List.nil_append, List.cons_append, Option.toList_some, Option.toList_none, forall_const, false_implies, true_implies, false_or, or_false, true_or, or_true]
    rw [show f = 3 by omega, fil_0, sA_self] at q
    exact q
  | succ n ih =>
    intro f S hf q
    refine s_J7_fill_53178_5 ?_
    simp only [B_J7_fill_53178_5, wi_iload_n, wi_icmp_ge, wi_aload_n, wi_iastore, wi_iinc, wi_goto, cnt_12, aTy_12, aLn_12, arr_12, no0, no1, nz1, nz2, nz3, nz4, nz5, nz7, nz8, Classical.not_not, bz0, bz1, wi_nil, ld_0, ld_s, isIv_I, isLv_L, isRv_R, true_and, and_true, lset_0, lset_1, lset_s, avw_I, avw_L, avw_R, clr_cons, clr_nil, kst_0, kst_1, kstL_0, kstL_1, addk_I, pA_0, pA_s, pD_0, pD_s, wid_nil, wid_cons, rcv_c, putv_I, putv_L, List.length_cons, List.length_nil, List.set_cons_zero, List.set_cons_succ, not_false_eq_true, Nat.reduceMod, Nat.reduceDiv, Nat.reduceEqDiff, Nat.reduceLT, Nat.reduceLeDiff, Nat.reduceAdd, Nat.reduceSub, reduceIte, Nat.lt_irrefl, Nat.zero_ne_one, Nat.one_ne_zero, Nat.zero_add, List.nil_append, List.cons_append, Option.toList_some, Option.toList_none, forall_const, false_implies, true_implies, false_or, or_false, true_or, or_true]
    rw [i_le (by omega) (by omega), nI_add, i_cl (by omega)]
    refine ⟨fun h => absurd h (by omega), fun _ => ⟨i_in (by omega) (by decide), ih (f + 1) _ (by omega) ?_⟩⟩
    rw [gA_same, sA_sA, fil_upd (by omega)]
    exact q
theorem c_forget (q : P none (sA (sI S 0 0 3 (nI 0)) 12 0 (fil (gA S 12 0) 0 3 (-nI 1)))) : wpM (d + 2) mX0_forget [aR 0 0] S P := by
  refine x_entry (ls2 := [aR 0 0]) (Nat.le_of_ble_eq_true rfl) pl_0 rfl (Nat.le_of_ble_eq_true rfl) ?_
  refine s_X0_forget_0 ?_
  simp only [B_X0_forget_0, wi_aload_n, wi_iconst, wi_putfield, pOk_0_3, cnt_0, wi_getfield, fldv_0_2, fds_0_2, wi_invokestatic, no0, no1, nz1, nz2, nz3, nz4, nz5, nz7, nz8, Classical.not_not, bz0, bz1, wi_nil, ld_0, ld_s, isIv_I, isLv_L, isRv_R, true_and, and_true, lset_0, lset_1, lset_s, avw_I, avw_L, avw_R, clr_cons, clr_nil, kst_0, kst_1, kstL_0, kstL_1, addk_I, pA_0, pA_s, pD_0, pD_s, wid_nil, wid_cons, rcv_c, putv_I, putv_L, List.length_cons, List.length_nil, List.set_cons_zero, List.set_cons_succ, not_false_eq_true, Nat.reduceMod, Nat.reduceDiv, Nat.reduceEqDiff, Nat.reduceLT, Nat.reduceLeDiff, Nat.reduceAdd, Nat.reduceSub, reduceIte, Nat.lt_irrefl, Nat.zero_ne_one, Nat.one_ne_zero, Nat.zero_add, List.nil_append, List.cons_append, Option.toList_some, Option.toList_none, forall_const, false_implies, true_implies, false_or, or_false, true_or, or_true]
  refine x_entry (ls2 := [aR 12 0, aI (-nI 1), aU, aU]) (Nat.le_of_ble_eq_true rfl) pl_13 rfl (Nat.le_of_ble_eq_true rfl) ?_
  refine s_J7_fill_53178_0 ?_
  simp only [B_J7_fill_53178_0, wi_iconst, wi_istore_n, wi_aload_n, wi_arraylength, cnt_12, aTy_12, aLn_12, arr_12, no0, no1, nz1, nz2, nz3, nz4, nz5, nz7, nz8, Classical.not_not, bz0, bz1, wi_nil, ld_0, ld_s, isIv_I, isLv_L, isRv_R, true_and, and_true, lset_0, lset_1, lset_s, avw_I, avw_L, avw_R, clr_cons, clr_nil, kst_0, kst_1, kstL_0, kstL_1, addk_I, pA_0, pA_s, pD_0, pD_s, wid_nil, wid_cons, rcv_c, putv_I, putv_L, List.length_cons, List.length_nil, List.set_cons_zero, List.set_cons_succ, not_false_eq_true, Nat.reduceMod, Nat.reduceDiv, Nat.reduceEqDiff, Nat.reduceLT, Nat.reduceLeDiff, Nat.reduceAdd, Nat.reduceSub, reduceIte, Nat.lt_irrefl, Nat.zero_ne_one, Nat.one_ne_zero, Nat.zero_add, List.nil_append, List.cons_append, Option.toList_some, Option.toList_none, forall_const, false_implies, true_implies, false_or, or_false, true_or, or_true]
  refine l_fill2 3 0 _ rfl ?_
  refine s_X0_forget_13 ?_
  simp only [B_X0_forget_13, wi_return_, no0, no1, nz1, nz2, nz3, nz4, nz5, nz7, nz8, Classical.not_not, bz0, bz1, wi_nil, ld_0, ld_s, isIv_I, isLv_L, isRv_R, true_and, and_true, lset_0, lset_1, lset_s, avw_I, avw_L, avw_R, clr_cons, clr_nil, kst_0, kst_1, kstL_0, kstL_1, addk_I, pA_0, pA_s, pD_0, pD_s, wid_nil, wid_cons, rcv_c, putv_I, putv_L, List.length_cons, List.length_nil, List.set_cons_zero, List.set_cons_succ, not_false_eq_true, Nat.reduceMod, Nat.reduceDiv, Nat.reduceEqDiff, Nat.reduceLT, Nat.reduceLeDiff, Nat.reduceAdd, Nat.reduceSub, reduceIte, Nat.lt_irrefl, Nat.zero_ne_one, Nat.one_ne_zero, Nat.zero_add, List.nil_append, List.cons_append, Option.toList_some, Option.toList_none, forall_const, false_implies, true_implies, false_or, or_false, true_or, or_true]
  exact q
variable {rs : Nat → Nat} {rc : Nat → Nat → Int32}
theorem c_storedSize {k : Nat} (ht : Tb S 12 11 3 40 rs rc) (hk : k < 3) (q : P (some (aI (szI (rs k)))) S) : wpM (d + 1) mX0_storedSize [aR 0 0, aI (nI k)] S P := by
  refine x_entry (ls2 := [aR 0 0, aI (nI k)]) (Nat.le_of_ble_eq_true rfl) pl_0 rfl (Nat.le_of_ble_eq_true rfl) ?_
  refine s_X0_storedSize_0 ?_
  simp only [B_X0_storedSize_0, wi_aload_n, wi_getfield, fldv_0_2, fds_0_2, cnt_0, wi_iload_n, wi_iaload, wi_ireturn, cnt_12, aTy_12, aLn_12, arr_12, no0, no1, nz1, nz2, nz3, nz4, nz5, nz7, nz8, Classical.not_not, bz0, bz1, wi_nil, ld_0, ld_s, isIv_I, isLv_L, isRv_R, true_and, and_true, lset_0, lset_1, lset_s, avw_I, avw_L, avw_R, clr_cons, clr_nil, kst_0, kst_1, kstL_0, kstL_1, addk_I, pA_0, pA_s, pD_0, pD_s, wid_nil, wid_cons, rcv_c, putv_I, putv_L, List.length_cons, List.length_nil, List.set_cons_zero, List.set_cons_succ, not_false_eq_true, Nat.reduceMod, Nat.reduceDiv, Nat.reduceEqDiff, Nat.reduceLT, Nat.reduceLeDiff, Nat.reduceAdd, Nat.reduceSub, reduceIte, Nat.lt_irrefl, Nat.zero_ne_one, Nat.one_ne_zero, Nat.zero_add, List.nil_append, List.cons_append, Option.toList_some, Option.toList_none, forall_const, false_implies, true_implies, false_or, or_false, true_or, or_true]
  rw [i_cl (by omega), (ht k hk).1]
  exact ⟨i_in hk (by decide), q⟩
theorem l_storedMany (ht : Tb S 12 11 3 40 rs rc) (q : P (some (aI (nI (tct rs 3)))) S) : ∀ (n r : Nat), r + n = 3 → wpX d mX0_howManyStored 4 [aR 0 0, aI (nI (tct rs r)), aI (nI r)] [] S P := by
  intro n
  induction n with
  | zero =>
    intro r hr
    have e : r = 3 := by omega
    subst e
    refine s_X0_howManyStored_4 ?_
    simp only [B_X0_howManyStored_4, wi_iload_n, wi_iconst, wi_icmp_ge, wi_aload_n, wi_getfield, fldv_0_2, fds_0_2, cnt_0, wi_iaload, wi_icmp_eq, wi_goto, cnt_12, aTy_12, aLn_12, arr_12, no0, no1, nz1, nz2, nz3, nz4, nz5, nz7, nz8, Classical.not_not, bz0, bz1, wi_nil, ld_0, ld_s, isIv_I, isLv_L, isRv_R, true_and, and_true, lset_0, lset_1, lset_s, avw_I, avw_L, avw_R, clr_cons, clr_nil, kst_0, kst_1, kstL_0, kstL_1, addk_I, pA_0, pA_s, pD_0, pD_s, wid_nil, wid_cons, rcv_c, putv_I, putv_L, List.length_cons, List.length_nil, List.set_cons_zero, List.set_cons_succ, not_false_eq_true, Nat.reduceMod, Nat.reduceDiv, Nat.reduceEqDiff, Nat.reduceLT, Nat.reduceLeDiff, Nat.reduceAdd, Nat.reduceSub, reduceIte, Nat.lt_irrefl, Nat.zero_ne_one, Nat.one_ne_zero, Nat.zero_add, List.nil_append, List.cons_append, Option.toList_some, Option.toList_none, forall_const, false_implies, true_implies, false_or, or_false, true_or, or_true]
    refine ⟨fun _ => ?_, fun h => absurd (by decide) h⟩
    refine s_X0_howManyStored_33 ?_
    simp only [B_X0_howManyStored_33, wi_iload_n, wi_ireturn, no0, no1, nz1, nz2, nz3, nz4, nz5, nz7, nz8, Classical.not_not, bz0, bz1, wi_nil, ld_0, ld_s, isIv_I, isLv_L, isRv_R, true_and, and_true, lset_0, lset_1, lset_s, avw_I, avw_L, avw_R, clr_cons, clr_nil, kst_0, kst_1, kstL_0, kstL_1, addk_I, pA_0, pA_s, pD_0, pD_s, wid_nil, wid_cons, rcv_c, putv_I, putv_L, List.length_cons, List.length_nil, List.set_cons_zero, List.set_cons_succ, not_false_eq_true, Nat.reduceMod, Nat.reduceDiv, Nat.reduceEqDiff, Nat.reduceLT, Nat.reduceLeDiff, Nat.reduceAdd, Nat.reduceSub, reduceIte, Nat.lt_irrefl, Nat.zero_ne_one, Nat.one_ne_zero, Nat.zero_add, List.nil_append, List.cons_append, Option.toList_some, Option.toList_none, forall_const, false_implies, true_implies, false_or, or_false, true_or, or_true]
    exact q
  | succ n ih =>
    intro r hr
    have hle := tct_le (rs := rs) (n := r)
    have hz := ht r (by omega)
    refine s_X0_howManyStored_4 ?_
    simp only [B_X0_howManyStored_4, wi_iload_n, wi_iconst, wi_icmp_ge, wi_aload_n, wi_getfield, fldv_0_2, fds_0_2, cnt_0, wi_iaload, wi_icmp_eq, wi_goto, cnt_12, aTy_12, aLn_12, arr_12, no0, no1, nz1, nz2, nz3, nz4, nz5, nz7, nz8, Classical.not_not, bz0, bz1, wi_nil, ld_0, ld_s, isIv_I, isLv_L, isRv_R, true_and, and_true, lset_0, lset_1, lset_s, avw_I, avw_L, avw_R, clr_cons, clr_nil, kst_0, kst_1, kstL_0, kstL_1, addk_I, pA_0, pA_s, pD_0, pD_s, wid_nil, wid_cons, rcv_c, putv_I, putv_L, List.length_cons, List.length_nil, List.set_cons_zero, List.set_cons_succ, not_false_eq_true, Nat.reduceMod, Nat.reduceDiv, Nat.reduceEqDiff, Nat.reduceLT, Nat.reduceLeDiff, Nat.reduceAdd, Nat.reduceSub, reduceIte, Nat.lt_irrefl, Nat.zero_ne_one, Nat.one_ne_zero, Nat.zero_add, List.nil_append, List.cons_append, Option.toList_some, Option.toList_none, forall_const, false_implies, true_implies, false_or, or_false, true_or, or_true]
    rw [i_le (by omega) (by omega), i_cl (by omega), hz.1, sz_eq (by omega)]
    have last : ∀ v, v = (if rs r = 0 then 0 else 1) → wpX d mX0_howManyStored 25 [aR 0 0, aU, aI (nI r)] [aI (nI v), aI (nI (tct rs r))] S P := by
      intro v hv
      refine s_X0_howManyStored_25 ?_
      simp only [B_X0_howManyStored_25, wi_iadd, wi_istore_n, wi_iinc, wi_goto, no0, no1, nz1, nz2, nz3, nz4, nz5, nz7, nz8, Classical.not_not, bz0, bz1, wi_nil, ld_0, ld_s, isIv_I, isLv_L, isRv_R, true_and, and_true, lset_0, lset_1, lset_s, avw_I, avw_L, avw_R, clr_cons, clr_nil, kst_0, kst_1, kstL_0, kstL_1, addk_I, pA_0, pA_s, pD_0, pD_s, wid_nil, wid_cons, rcv_c, putv_I, putv_L, List.length_cons, List.length_nil, List.set_cons_zero, List.set_cons_succ, not_false_eq_true, Nat.reduceMod, Nat.reduceDiv, Nat.reduceEqDiff, Nat.reduceLT, Nat.reduceLeDiff, Nat.reduceAdd, Nat.reduceSub, reduceIte, Nat.lt_irrefl, Nat.zero_ne_one, Nat.one_ne_zero, Nat.zero_add, List.nil_append, List.cons_append, Option.toList_some, Option.toList_none, forall_const, false_implies, true_implies, false_or, or_false, true_or, or_true]
      rw [nI_add, nI_add, hv]
      exact ih (r + 1) (by omega)
    refine ⟨fun h => absurd h (by omega), fun _ => ⟨i_in (by omega) (by decide), fun h => ?_, fun h => last 1 (by rw [if_neg h])⟩⟩
    refine s_X0_howManyStored_24 ?_
    simp only [B_X0_howManyStored_24, wi_iconst, no0, no1, nz1, nz2, nz3, nz4, nz5, nz7, nz8, Classical.not_not, bz0, bz1, wi_nil, ld_0, ld_s, isIv_I, isLv_L, isRv_R, true_and, and_true, lset_0, lset_1, lset_s, avw_I, avw_L, avw_R, clr_cons, clr_nil, kst_0, kst_1, kstL_0, kstL_1, addk_I, pA_0, pA_s, pD_0, pD_s, wid_nil, wid_cons, rcv_c, putv_I, putv_L, List.length_cons, List.length_nil, List.set_cons_zero, List.set_cons_succ, not_false_eq_true, Nat.reduceMod, Nat.reduceDiv, Nat.reduceEqDiff, Nat.reduceLT, Nat.reduceLeDiff, Nat.reduceAdd, Nat.reduceSub, reduceIte, Nat.lt_irrefl, Nat.zero_ne_one, Nat.one_ne_zero, Nat.zero_add, List.nil_append, List.cons_append, Option.toList_some, Option.toList_none, forall_const, false_implies, true_implies, false_or, or_false, true_or, or_true]
    exact last 0 (by rw [if_pos h])
theorem c_storedMany (ht : Tb S 12 11 3 40 rs rc) (q : P (some (aI (nI (tct rs 3)))) S) : wpM (d + 1) mX0_howManyStored [aR 0 0] S P := by
  refine x_entry (ls2 := [aR 0 0, aU, aU]) (Nat.le_of_ble_eq_true rfl) pl_0 rfl (Nat.le_of_ble_eq_true rfl) ?_
  refine s_X0_howManyStored_0 ?_
  simp only [B_X0_howManyStored_0, wi_iconst, wi_istore_n, no0, no1, nz1, nz2, nz3, nz4, nz5, nz7, nz8, Classical.not_not, bz0, bz1, wi_nil, ld_0, ld_s, isIv_I, isLv_L, isRv_R, true_and, and_true, lset_0, lset_1, lset_s, avw_I, avw_L, avw_R, clr_cons, clr_nil, kst_0, kst_1, kstL_0, kstL_1, addk_I, pA_0, pA_s, pD_0, pD_s, wid_nil, wid_cons, rcv_c, putv_I, putv_L, List.length_cons, List.length_nil, List.set_cons_zero, List.set_cons_succ, not_false_eq_true, Nat.reduceMod, Nat.reduceDiv, Nat.reduceEqDiff, Nat.reduceLT, Nat.reduceLeDiff, Nat.reduceAdd, Nat.reduceSub, reduceIte, Nat.lt_irrefl, Nat.zero_ne_one, Nat.one_ne_zero, Nat.zero_add, List.nil_append, List.cons_append, Option.toList_some, Option.toList_none, forall_const, false_implies, true_implies, false_or, or_false, true_or, or_true]
  exact l_storedMany ht q 3 0 rfl
theorem c_store {L k : Nat} (hL : gI S 0 0 3 = nI L) (hL4 : L ≤ 40) (hk : k < 3) (q : P none (sA (sA S 11 0 (va_cpy (gA S 10 0) (gA S 11 0) 0 (40 * k) L)) 12 0 (upd (gA S 12 0) k (nI L)))) : wpM (d + 1) mX0_store [aR 0 0, aI (nI k)] S P := by
  refine x_entry (ls2 := [aR 0 0, aI (nI k)]) (Nat.le_of_ble_eq_true rfl) pl_0 rfl (Nat.le_of_ble_eq_true rfl) ?_
  refine s_X0_store_0 ?_
  simp only [B_X0_store_0, wi_aload_n, wi_getfield, fldv_0_0, fds_0_0, cnt_0, wi_iconst, fldv_0_1, fds_0_1, wi_iload_n, wi_bipush, wi_imul, fldv_0_3, fds_0_3, wi_arraycopy, fldv_0_2, fds_0_2, wi_iastore, wi_return_, cnt_10, aTy_10, aLn_10, arr_10, cnt_11, aTy_11, aLn_11, arr_11, cnt_12, aTy_12, aLn_12, arr_12, no0, no1, nz1, nz2, nz3, nz4, nz5, nz7, nz8, Classical.not_not, bz0, bz1, wi_nil, ld_0, ld_s, isIv_I, isLv_L, isRv_R, true_and, and_true, lset_0, lset_1, lset_s, avw_I, avw_L, avw_R, clr_cons, clr_nil, kst_0, kst_1, kstL_0, kstL_1, addk_I, pA_0, pA_s, pD_0, pD_s, wid_nil, wid_cons, rcv_c, putv_I, putv_L, List.length_cons, List.length_nil, List.set_cons_zero, List.set_cons_succ, not_false_eq_true, Nat.reduceMod, Nat.reduceDiv, Nat.reduceEqDiff, Nat.reduceLT, Nat.reduceLeDiff, Nat.reduceAdd, Nat.reduceSub, reduceIte, Nat.lt_irrefl, Nat.zero_ne_one, Nat.one_ne_zero, Nat.zero_add, List.nil_append, List.cons_append, Option.toList_some, Option.toList_none, forall_const, false_implies, true_implies, false_or, or_false, true_or, or_true, gI_sI, gI_sL, gI_sA, gL_sI, gL_sL, gL_sA, gA_sI, gA_sL, gA_sA, false_and, and_false, and_self, eq_self, if_true, if_false, sA_sA]
  rw [hL, pk_mul, i_cl (by decide), i_cl (by omega), i_cl (by omega), i_cl (by omega), show k * 40 = 40 * k by omega]
  exact ⟨⟨by decide +kernel, nI_pos (by omega), nI_pos (by omega), by omega, by omega⟩, i_in hk (by decide), q⟩
theorem c_restore {L k : Nat} (hL : gA S 12 0 k = nI L) (hL4 : L ≤ 40) (hk : k < 3) (q : P none (sA (sI S 0 0 3 (nI L)) 10 0 (va_cpy (gA S 11 0) (gA S 10 0) (40 * k) 0 L))) : wpM (d + 1) mX0_restore [aR 0 0, aI (nI k)] S P := by
  refine x_entry (ls2 := [aR 0 0, aI (nI k)]) (Nat.le_of_ble_eq_true rfl) pl_0 rfl (Nat.le_of_ble_eq_true rfl) ?_
  refine s_X0_restore_0 ?_
  simp only [B_X0_restore_0, wi_aload_n, wi_getfield, fldv_0_2, fds_0_2, cnt_0, wi_iload_n, wi_iaload, wi_putfield, pOk_0_3, fldv_0_1, fds_0_1, wi_bipush, wi_imul, fldv_0_0, fds_0_0, wi_iconst, fldv_0_3, fds_0_3, wi_arraycopy, wi_return_, cnt_10, aTy_10, aLn_10, arr_10, cnt_11, aTy_11, aLn_11, arr_11, cnt_12, aTy_12, aLn_12, arr_12, no0, no1, nz1, nz2, nz3, nz4, nz5, nz7, nz8, Classical.not_not, bz0, bz1, wi_nil, ld_0, ld_s, isIv_I, isLv_L, isRv_R, true_and, and_true, lset_0, lset_1, lset_s, avw_I, avw_L, avw_R, clr_cons, clr_nil, kst_0, kst_1, kstL_0, kstL_1, addk_I, pA_0, pA_s, pD_0, pD_s, wid_nil, wid_cons, rcv_c, putv_I, putv_L, List.length_cons, List.length_nil, List.set_cons_zero, List.set_cons_succ, not_false_eq_true, Nat.reduceMod, Nat.reduceDiv, Nat.reduceEqDiff, Nat.reduceLT, Nat.reduceLeDiff, Nat.reduceAdd, Nat.reduceSub, reduceIte, Nat.lt_irrefl, Nat.zero_ne_one, Nat.one_ne_zero, Nat.zero_add, List.nil_append, List.cons_append, Option.toList_some, Option.toList_none, forall_const, false_implies, true_implies, false_or, or_false, true_or, or_true, gI_sI, gI_sL, gI_sA, gL_sI, gL_sL, gL_sA, gA_sI, gA_sL, gA_sA, false_and, and_false, and_self, eq_self, if_true, if_false, sA_sA]
  rw [pk_mul, i_cl (show k < 2 ^ 30 by omega), hL, i_cl (by omega), i_cl (by omega), i_cl (by omega), show k * 40 = 40 * k by omega]
  exact ⟨i_in hk (by decide), ⟨nI_pos (by omega), by decide +kernel, nI_pos (by omega), by omega, by omega⟩, q⟩
end
-- following acts
def flY (Y : Nat → Nat → Nat) (p : Nat) : Nat → Nat → Nat :=
  if aW p = 0 then psY Y (aA p) (aB p) else if aW p = 1 then yset Y 6 4 (Y 6 4 ||| 2 ^ aA p) else if aW p = 2 then yset (yset Y 6 4 (Y 6 4 &&& (31 - 2 ^ aA p))) 4 (aA p) 0 else yset Y 6 2 (aA p)
/-- an act that can be done in Y -/
def AOk (Y : Nat → Nat → Nat) (p : Nat) : Prop := p < 2 ^ 20 ∧ aW p < 4 ∧ (aW p = 0 → aA p < 2 ^ Y 6 0 ∧ aB p < 2 ^ Y 6 0 ∧ aA p &&& aB p = 0 ∧ (aA p ||| aB p) &&& Y 6 4 = 0 ∧ bct (aB p) ≤ Y 6 3) ∧ (aW p = 1 ∨ aW p = 2 → aA p < Y 6 0) ∧ (aW p = 3 → aA p ≤ 40)
theorem bct_5 {s : Nat} (h : s < 32) : bct s = csum (fun _ => 1) 5 s := csum_high 6 5 s (by decide) h
theorem ofc_le_bct {Y : Nat → Nat → Nat} {s o : Nat} : ∀ (n : Nat), ofc Y s o n ≤ csum (fun _ => 1) n o := by
  intro n
  induction n with
  | zero => exact Nat.le_refl _
  | succ n ih =>
    rw [ofc_succ, csum_succ]
    by_cases h : o.testBit n = true
    · rw [if_pos h]
      split <;> omega
    · rw [if_neg (fun q => h q.2.2)]
      split <;> omega
theorem ofc_bct {Y : Nat → Nat → Nat} {s o : Nat} (h : o < 2 ^ Y 6 0) (hn : Y 6 0 ≤ 5) : ofc Y s o (Y 6 0) ≤ bct o := by
  have h1 := ofc_le_bct (Y := Y) (s := s) (o := o) (Y 6 0)
  have h2 : bct o = csum (fun _ => 1) (Y 6 0) o := csum_high 6 (Y 6 0) o (by omega) h
  omega
section
variable {d j B : Nat} {S : MS} {Y : Nat → Nat → Nat} {P : Option AV → MS → Prop}
theorem c_follow {p : Nat} (hj : j < 5) (hy : YrX S j Y) (ho : YOk B Y) (hB : B < 900) (ha : AOk Y p) (q : ∀ S2, YrX S2 j (flY Y p) → FY j S S2 → P none S2) : wpM (d + 4) mX7_follow [aR 6 j, aI (nI p)] S P := by
  obtain ⟨hp, hw, h0, h12, h3⟩ := ha
  have hn5 := ho.1.1
  have hA64 : aA p < 64 := Nat.mod_lt _ (by decide)
  have hB64 : aB p < 64 := Nat.mod_lt _ (by decide)
  refine x_entry (ls2 := [aR 6 j, aI (nI p), aU]) (Nat.le_of_ble_eq_true rfl) pl_7 rfl (Nat.le_of_ble_eq_true rfl) ?_
  refine s_X7_follow_0 ?_
  simp only [B_X7_follow_0, wi_iload_n, wi_invokestatic, no0, no1, nz1, nz2, nz3, nz4, nz5, nz7, nz8, Classical.not_not, bz0, bz1, wi_nil, ld_0, ld_s, isIv_I, isLv_L, isRv_R, true_and, and_true, lset_0, lset_1, lset_s, avw_I, avw_L, avw_R, clr_cons, clr_nil, kst_0, kst_1, kstL_0, kstL_1, addk_I, pA_0, pA_s, pD_0, pD_s, wid_nil, wid_cons, rcv_c, putv_I, putv_L, List.length_cons, List.length_nil, List.set_cons_zero, List.set_cons_succ, not_false_eq_true, Nat.reduceMod, Nat.reduceDiv, Nat.reduceEqDiff, Nat.reduceLT, Nat.reduceLeDiff, Nat.reduceAdd, Nat.reduceSub, reduceIte, Nat.lt_irrefl, Nat.zero_ne_one, Nat.one_ne_zero, Nat.zero_add, List.nil_append, List.cons_append, Option.toList_some, Option.toList_none, forall_const, false_implies, true_implies, false_or, or_false, true_or, or_true]
  refine c_firstOf hp ?_
  refine s_X7_follow_4 ?_
  simp only [B_X7_follow_4, wi_istore_n, wi_iload_n, wi_invokestatic, no0, no1, nz1, nz2, nz3, nz4, nz5, nz7, nz8, Classical.not_not, bz0, bz1, wi_nil, ld_0, ld_s, isIv_I, isLv_L, isRv_R, true_and, and_true, lset_0, lset_1, lset_s, avw_I, avw_L, avw_R, clr_cons, clr_nil, kst_0, kst_1, kstL_0, kstL_1, addk_I, pA_0, pA_s, pD_0, pD_s, wid_nil, wid_cons, rcv_c, putv_I, putv_L, List.length_cons, List.length_nil, List.set_cons_zero, List.set_cons_succ, not_false_eq_true, Nat.reduceMod, Nat.reduceDiv, Nat.reduceEqDiff, Nat.reduceLT, Nat.reduceLeDiff, Nat.reduceAdd, Nat.reduceSub, reduceIte, Nat.lt_irrefl, Nat.zero_ne_one, Nat.one_ne_zero, Nat.zero_add, List.nil_append, List.cons_append, Option.toList_some, Option.toList_none, forall_const, false_implies, true_implies, false_or, or_false, true_or, or_true]
  refine c_whatOf hp ?_
  refine s_X7_follow_9 ?_
  simp only [B_X7_follow_9, wi_tsw, no0, no1, nz1, nz2, nz3, nz4, nz5, nz7, nz8, Classical.not_not, bz0, bz1, wi_nil, ld_0, ld_s, isIv_I, isLv_L, isRv_R, true_and, and_true, lset_0, lset_1, lset_s, avw_I, avw_L, avw_R, clr_cons, clr_nil, kst_0, kst_1, kstL_0, kstL_1, addk_I, pA_0, pA_s, pD_0, pD_s, wid_nil, wid_cons, rcv_c, putv_I, putv_L, List.length_cons, List.length_nil, List.set_cons_zero, List.set_cons_succ, not_false_eq_true, Nat.reduceMod, Nat.reduceDiv, Nat.reduceEqDiff, Nat.reduceLT, Nat.reduceLeDiff, Nat.reduceAdd, Nat.reduceSub, reduceIte, Nat.lt_irrefl, Nat.zero_ne_one, Nat.one_ne_zero, Nat.zero_add, List.nil_append, List.cons_append, Option.toList_some, Option.toList_none, forall_const, false_implies, true_implies, false_or, or_false, true_or, or_true]
  have fin : ∀ S2, P none S2 → wpX (d + 3) mX7_follow 97 [aU, aU, aU] [] S2 P := by
    intro S2 h
    refine s_X7_follow_97 ?_
    simp only [B_X7_follow_97, wi_return_, no0, no1, nz1, nz2, nz3, nz4, nz5, nz7, nz8, Classical.not_not, bz0, bz1, wi_nil, ld_0, ld_s, isIv_I, isLv_L, isRv_R, true_and, and_true, lset_0, lset_1, lset_s, avw_I, avw_L, avw_R, clr_cons, clr_nil, kst_0, kst_1, kstL_0, kstL_1, addk_I, pA_0, pA_s, pD_0, pD_s, wid_nil, wid_cons, rcv_c, putv_I, putv_L, List.length_cons, List.length_nil, List.set_cons_zero, List.set_cons_succ, not_false_eq_true, Nat.reduceMod, Nat.reduceDiv, Nat.reduceEqDiff, Nat.reduceLT, Nat.reduceLeDiff, Nat.reduceAdd, Nat.reduceSub, reduceIte, Nat.lt_irrefl, Nat.zero_ne_one, Nat.one_ne_zero, Nat.zero_add, List.nil_append, List.cons_append, Option.toList_some, Option.toList_none, forall_const, false_implies, true_implies, false_or, or_false, true_or, or_true]
    exact h
  rcases (show aW p = 0 ∨ aW p = 1 ∨ aW p = 2 ∨ aW p = 3 by omega) with e | e | e | e
  · rw [e]
    rw [show swt 9 83 0 2 #[27, 39, 54] (nI 0) = 36 from by decide +kernel]
    obtain ⟨a1, a2, a3, a4, a5⟩ := h0 e
    have hp2 := p2_lt hn5
    refine s_X7_follow_36 ?_
    simp only [B_X7_follow_36, wi_aload_n, wi_iload_n, wi_invokestatic, no0, no1, nz1, nz2, nz3, nz4, nz5, nz7, nz8, Classical.not_not, bz0, bz1, wi_nil, ld_0, ld_s, isIv_I, isLv_L, isRv_R, true_and, and_true, lset_0, lset_1, lset_s, avw_I, avw_L, avw_R, clr_cons, clr_nil, kst_0, kst_1, kstL_0, kstL_1, addk_I, pA_0, pA_s, pD_0, pD_s, wid_nil, wid_cons, rcv_c, putv_I, putv_L, List.length_cons, List.length_nil, List.set_cons_zero, List.set_cons_succ, not_false_eq_true, Nat.reduceMod, Nat.reduceDiv, Nat.reduceEqDiff, Nat.reduceLT, Nat.reduceLeDiff, Nat.reduceAdd, Nat.reduceSub, reduceIte, Nat.lt_irrefl, Nat.zero_ne_one, Nat.one_ne_zero, Nat.zero_add, List.nil_append, List.cons_append, Option.toList_some, Option.toList_none, forall_const, false_implies, true_implies, false_or, or_false, true_or, or_true, hj]
    refine c_secondOf hp ?_
    refine s_X7_follow_42 ?_
    simp only [B_X7_follow_42, wi_invokevirtual, cnt_6, no0, no1, nz1, nz2, nz3, nz4, nz5, nz7, nz8, Classical.not_not, bz0, bz1, wi_nil, ld_0, ld_s, isIv_I, isLv_L, isRv_R, true_and, and_true, lset_0, lset_1, lset_s, avw_I, avw_L, avw_R, clr_cons, clr_nil, kst_0, kst_1, kstL_0, kstL_1, addk_I, pA_0, pA_s, pD_0, pD_s, wid_nil, wid_cons, rcv_c, putv_I, putv_L, List.length_cons, List.length_nil, List.set_cons_zero, List.set_cons_succ, not_false_eq_true, Nat.reduceMod, Nat.reduceDiv, Nat.reduceEqDiff, Nat.reduceLT, Nat.reduceLeDiff, Nat.reduceAdd, Nat.reduceSub, reduceIte, Nat.lt_irrefl, Nat.zero_ne_one, Nat.one_ne_zero, Nat.zero_add, List.nil_append, List.cons_append, Option.toList_some, Option.toList_none, forall_const, false_implies, true_implies, false_or, or_false, true_or, or_true, hj]
    refine c_pass hj hy ho hB (by omega) (by omega) (by have := ofc_bct (Y := Y) (s := aA p) a2 hn5; omega) (fun S2 z1 z2 => ?_)
    refine s_X7_follow_45 ?_
    simp only [B_X7_follow_45, wi_goto, no0, no1, nz1, nz2, nz3, nz4, nz5, nz7, nz8, Classical.not_not, bz0, bz1, wi_nil, ld_0, ld_s, isIv_I, isLv_L, isRv_R, true_and, and_true, lset_0, lset_1, lset_s, avw_I, avw_L, avw_R, clr_cons, clr_nil, kst_0, kst_1, kstL_0, kstL_1, addk_I, pA_0, pA_s, pD_0, pD_s, wid_nil, wid_cons, rcv_c, putv_I, putv_L, List.length_cons, List.length_nil, List.set_cons_zero, List.set_cons_succ, not_false_eq_true, Nat.reduceMod, Nat.reduceDiv, Nat.reduceEqDiff, Nat.reduceLT, Nat.reduceLeDiff, Nat.reduceAdd, Nat.reduceSub, reduceIte, Nat.lt_irrefl, Nat.zero_ne_one, Nat.one_ne_zero, Nat.zero_add, List.nil_append, List.cons_append, Option.toList_some, Option.toList_none, forall_const, false_implies, true_implies, false_or, or_false, true_or, or_true]
    refine fin S2 (q S2 ?_ z2)
    unfold flY
    rw [if_pos e]
    exact z1
  · rw [e]
    rw [show swt 9 83 0 2 #[27, 39, 54] (nI 1) = 48 from by decide +kernel]
    have ha5 := h12 (Or.inl e)
    have hg := yg_lt ho
    refine s_X7_follow_48 ?_
    simp only [B_X7_follow_48, wi_aload_n, wi_dup, wi_getfield, fldv_6_11, fds_6_11, cnt_6, wi_iconst, wi_iload_n, wi_ishl, wi_ior, wi_putfield, pOk_6_11, wi_goto, no0, no1, nz1, nz2, nz3, nz4, nz5, nz7, nz8, Classical.not_not, bz0, bz1, wi_nil, ld_0, ld_s, isIv_I, isLv_L, isRv_R, true_and, and_true, lset_0, lset_1, lset_s, avw_I, avw_L, avw_R, clr_cons, clr_nil, kst_0, kst_1, kstL_0, kstL_1, addk_I, pA_0, pA_s, pD_0, pD_s, wid_nil, wid_cons, rcv_c, putv_I, putv_L, List.length_cons, List.length_nil, List.set_cons_zero, List.set_cons_succ, not_false_eq_true, Nat.reduceMod, Nat.reduceDiv, Nat.reduceEqDiff, Nat.reduceLT, Nat.reduceLeDiff, Nat.reduceAdd, Nat.reduceSub, reduceIte, Nat.lt_irrefl, Nat.zero_ne_one, Nat.one_ne_zero, Nat.zero_add, List.nil_append, List.cons_append, Option.toList_some, Option.toList_none, forall_const, false_implies, true_implies, false_or, or_false, true_or, or_true, hj]
    have e4 := hy.2 4 (by decide)
    rw [e4, i_sh1 (by omega), i_or]
    refine fin _ (q _ ?_ FY_sI)
    unfold flY
    rw [if_neg (by omega), if_pos e]
    exact yrx_I (t := 4) hy
  · rw [e]
    rw [show swt 9 83 0 2 #[27, 39, 54] (nI 2) = 63 from by decide +kernel]
    have ha5 := h12 (Or.inr e)
    have hg := yg_lt ho
    refine s_X7_follow_63 ?_
    simp only [B_X7_follow_63, wi_aload_n, wi_dup, wi_getfield, fldv_6_11, fds_6_11, cnt_6, wi_iconst, wi_iload_n, wi_ishl, wi_ixor, wi_iand, wi_putfield, pOk_6_11, wi_icmp_ge, fldv_6_4, fds_6_4, wi_iastore, wi_goto, cnt_24, aTy_24, aLn_24, arr_24, no0, no1, nz1, nz2, nz3, nz4, nz5, nz7, nz8, Classical.not_not, bz0, bz1, wi_nil, ld_0, ld_s, isIv_I, isLv_L, isRv_R, true_and, and_true, lset_0, lset_1, lset_s, avw_I, avw_L, avw_R, clr_cons, clr_nil, kst_0, kst_1, kstL_0, kstL_1, addk_I, pA_0, pA_s, pD_0, pD_s, wid_nil, wid_cons, rcv_c, putv_I, putv_L, List.length_cons, List.length_nil, List.set_cons_zero, List.set_cons_succ, not_false_eq_true, Nat.reduceMod, Nat.reduceDiv, Nat.reduceEqDiff, Nat.reduceLT, Nat.reduceLeDiff, Nat.reduceAdd, Nat.reduceSub, reduceIte, Nat.lt_irrefl, Nat.zero_ne_one, Nat.one_ne_zero, Nat.zero_add, List.nil_append, List.cons_append, Option.toList_some, Option.toList_none, forall_const, false_implies, true_implies, false_or, or_false, true_or, or_true, hj, gI_sI, gI_sL, gI_sA, gL_sI, gL_sL, gL_sA, gA_sI, gA_sL, gA_sA, false_and, and_false, and_self, eq_self, if_true, if_false, sA_sA]
    have e4 := hy.2 4 (by decide)
    rw [e4, i_sh1 (by omega), i_rm hg (by omega), i_le (by decide) (by omega), i_cl (by omega)]
    refine ⟨fun h => absurd h (by omega), fun _ => ⟨i_in (by omega) (by decide), ?_⟩⟩
    refine fin _ (q _ ?_ (FY_sI.trans (FY_sA (by decide) (by decide))))
    unfold flY
    rw [if_neg (by omega), if_neg (by omega), if_pos e]
    exact yrx_A (f := 4) (v := 0) (yrx_I (t := 4) hy) (by decide)
  · rw [e]
    rw [show swt 9 83 0 2 #[27, 39, 54] (nI 3) = 92 from by decide +kernel]
    refine s_X7_follow_92 ?_
    simp only [B_X7_follow_92, wi_aload_n, wi_iload_n, wi_putfield, pOk_6_9, cnt_6, no0, no1, nz1, nz2, nz3, nz4, nz5, nz7, nz8, Classical.not_not, bz0, bz1, wi_nil, ld_0, ld_s, isIv_I, isLv_L, isRv_R, true_and, and_true, lset_0, lset_1, lset_s, avw_I, avw_L, avw_R, clr_cons, clr_nil, kst_0, kst_1, kstL_0, kstL_1, addk_I, pA_0, pA_s, pD_0, pD_s, wid_nil, wid_cons, rcv_c, putv_I, putv_L, List.length_cons, List.length_nil, List.set_cons_zero, List.set_cons_succ, not_false_eq_true, Nat.reduceMod, Nat.reduceDiv, Nat.reduceEqDiff, Nat.reduceLT, Nat.reduceLeDiff, Nat.reduceAdd, Nat.reduceSub, reduceIte, Nat.lt_irrefl, Nat.zero_ne_one, Nat.one_ne_zero, Nat.zero_add, List.nil_append, List.cons_append, Option.toList_some, Option.toList_none, forall_const, false_implies, true_implies, false_or, or_false, true_or, or_true, hj]
    refine fin _ (q _ ?_ FY_sI)
    unfold flY
    rw [if_neg (by omega), if_neg (by omega), if_neg (by omega)]
    exact yrx_I (t := 2) hy
end
theorem flY_n {Y : Nat → Nat → Nat} {p : Nat} : flY Y p 6 0 = Y 6 0 := by
  unfold flY
  split
  · exact psY_sc.1
  · split
    · unfold yset; rw [if_neg (by omega)]
    · split
      · unfold yset; rw [if_neg (by omega), if_neg (by omega)]
      · unfold yset; rw [if_neg (by omega)]
theorem or_pow_lt {g a n : Nat} (hg : g < 2 ^ n) (ha : a < n) : g ||| 2 ^ a < 2 ^ n := Nat.or_lt_two_pow hg (Nat.pow_lt_pow_right (by decide) ha)
theorem flY_ok {B : Nat} {Y : Nat → Nat → Nat} {p : Nat} (h : YOk B Y) (ha : AOk Y p) : YOk (B + 1) (flY Y p) := by
  obtain ⟨⟨b0, b1, b2, b3, b4⟩, b5⟩ := id h
  have hn := flY_n (Y := Y) (p := p)
  unfold flY at hn ⊢
  split
  · exact psY_ok h
  · rename_i h00
    rw [if_neg h00] at hn
    split
    · rename_i h1
      have := ha.2.2.2.1 (Or.inl h1)
      refine ⟨?_, fun i hi => ?_⟩
      · simp only [yset]
        simp
        exact ⟨b0, by omega, b2, b3, or_pow_lt b4 this⟩
      · rw [if_pos h1] at hn
        rw [hn] at hi
        have := b5 i hi
        simp [yset]
        omega
    · rename_i h01
      rw [if_neg h01] at hn
      split
      · rename_i h1
        have := ha.2.2.2.1 (Or.inr h1)
        refine ⟨?_, fun i hi => ?_⟩
        · simp only [yset]
          simp
          exact ⟨b0, by omega, b2, b3, Nat.lt_of_le_of_lt Nat.and_le_left b4⟩
        · rw [if_pos h1] at hn
          rw [hn] at hi
          have := b5 i hi
          simp only [yset]
          simp
          refine ⟨by omega, by omega, by omega, by omega, ?_, by omega⟩
          split <;> omega
      · rename_i h02
        rw [if_neg h02] at hn
        refine ⟨?_, fun i hi => ?_⟩
        · have := ha.2.2.2.2 (by have := ha.2.1; omega)
          simp only [yset]
          simp
          exact ⟨b0, by omega, this, b3, b4⟩
        · rw [hn] at hi
          have := b5 i hi
          simp [yset]
          omega
def AsOk : (Nat → Nat → Nat) → List Nat → Prop
  | _, [] => True
  | Y, p :: t => AOk Y p ∧ AsOk (flY Y p) t
def nwY (Y : Nat → Nat → Nat) (as : List Nat) : Nat → Nat → Nat := as.foldl flY Y
theorem AsOk_app {p : Nat} : ∀ (as : List Nat) (Y : Nat → Nat → Nat), AsOk Y (as ++ [p]) ↔ AsOk Y as ∧ AOk (nwY Y as) p := by
  intro as
  induction as with
  | nil => intro Y; exact ⟨fun h => ⟨trivial, h.1⟩, fun h => ⟨h.2, trivial⟩⟩
  | cons x t ih =>
    intro Y
    show (AOk Y x ∧ AsOk (flY Y x) (t ++ [p])) ↔ (AOk Y x ∧ AsOk (flY Y x) t) ∧ AOk (nwY (flY Y x) t) p
    rw [ih]
    exact and_assoc.symm
theorem nwY_app {p : Nat} {as : List Nat} {Y : Nat → Nat → Nat} : nwY Y (as ++ [p]) = flY (nwY Y as) p := by
  unfold nwY
  rw [List.foldl_append]
  rfl
theorem nwY_ok : ∀ (as : List Nat) (B : Nat) (Y : Nat → Nat → Nat), YOk B Y → AsOk Y as → YOk (B + as.length) (nwY Y as) := by
  intro as
  induction as with
  | nil => intro B Y h _; exact h
  | cons x t ih =>
    intro B Y h ha
    have := ih (B + 1) (flY Y x) (flY_ok h ha.1) ha.2
    rw [List.length_cons, show B + (t.length + 1) = B + 1 + t.length by omega]
    exact this
theorem AsOk_take : ∀ (as : List Nat) (n : Nat) (Y : Nat → Nat → Nat), AsOk Y as → AsOk Y (as.take n) := by
  intro as
  induction as with
  | nil => intro n Y _; rw [List.take_nil]; trivial
  | cons x t ih =>
    intro n Y h
    cases n with
    | zero => trivial
    | succ n => exact ⟨h.1, ih n _ h.2⟩
theorem nwY_n : ∀ (as : List Nat) (Y : Nat → Nat → Nat), nwY Y as 6 0 = Y 6 0 := by
  intro as
  induction as with
  | nil => intro Y; rfl
  | cons x t ih => intro Y; exact (ih (flY Y x)).trans flY_n
