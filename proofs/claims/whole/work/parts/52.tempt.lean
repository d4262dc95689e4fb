-- PART 52: by turns: the reference's side; tempt
/-- the deeds of which a code's digit is w -/
def sO (code w : Nat) : Nat → Nat
  | 0 => 0
  | i + 1 => sO code w i ||| (if code / 3 ^ i % 3 = w then 2 ^ i else 0)
/-- where the turns begin: a digit 1 for each deed given up -/
def hz (g n : Nat) : Nat → Nat
  | 0 => 0
  | m + 1 => 3 * hz g n m + (if g.testBit (n - (m + 1)) = true then 1 else 0)
theorem sO_lt {code w : Nat} : ∀ i, sO code w i < 2 ^ i := by
  intro i
  induction i with
  | zero => exact Nat.zero_lt_succ 0
  | succ i ih =>
    rw [sO]
    have h1 : 2 ^ i < 2 ^ (i + 1) := Nat.pow_lt_pow_right (by decide) (Nat.lt_succ_self i)
    refine Nat.or_lt_two_pow (by omega) ?_
    split <;> omega
set_option maxRecDepth 100000 in
theorem sO_step {n i code : Nat} (hn : n < 6) (hi : i < 5) (hc : code < 243) (h1 : i < n) (h2 : code < 3 ^ n) (h3 : (sO code 0 n).testBit i = true) : sO (code + 3 ^ i) 0 n = sO code 0 n &&& (31 - 2 ^ i) ∧ sO (code + 3 ^ i) 2 n = sO code 2 n ∧ sO (code + 2 * 3 ^ i) 0 n = sO code 0 n &&& (31 - 2 ^ i) ∧ sO (code + 2 * 3 ^ i) 2 n = sO code 2 n ||| 2 ^ i ∧ code + 2 * 3 ^ i < 3 ^ n ∧ (sO code 2 n).testBit i = false :=
  fin3 (p := fun n i code => i < n → code < 3 ^ n → (sO code 0 n).testBit i = true → sO (code + 3 ^ i) 0 n = sO code 0 n &&& (31 - 2 ^ i) ∧ sO (code + 3 ^ i) 2 n = sO code 2 n ∧ sO (code + 2 * 3 ^ i) 0 n = sO code 0 n &&& (31 - 2 ^ i) ∧ sO (code + 2 * 3 ^ i) 2 n = sO code 2 n ||| 2 ^ i ∧ code + 2 * 3 ^ i < 3 ^ n ∧ (sO code 2 n).testBit i = false) (n := 6) (m := 5) (l := 243) (by decide +kernel) hn hi hc h1 h2 h3
theorem hz_fin {n g : Nat} (hn : n < 6) (hg : g < 32) (h : g < 2 ^ n) : sO (hz g n n) 0 n = (2 ^ n - 1) &&& (31 - g) ∧ sO (hz g n n) 2 n = 0 ∧ hz g n n < 3 ^ n := fin2 (p := fun n g => g < 2 ^ n → sO (hz g n n) 0 n = (2 ^ n - 1) &&& (31 - g) ∧ sO (hz g n n) 2 n = 0 ∧ hz g n n < 3 ^ n) (n := 6) (m := 32) (by decide +kernel) hn hg h
theorem p3_le {n : Nat} (h : n ≤ 5) : 3 ^ n ≤ 243 := Nat.pow_le_pow_right (n := 3) (by decide) h
theorem bo_shift {ok : Nat → Bool} {v u : Nat → Nat} {t : Bool} {a : Nat} : ∀ (n : Nat), (∀ i, i < n → ok i = true → u i = a + v i) → boF ok u t n = (boF ok v t n).map (fun x => a + x) := by
  intro n
  induction n with
  | zero => intro _; rfl
  | succ n ih =>
    intro h
    rw [boF, boF, ih (fun i hi => h i (by omega))]
    cases hk : ok n
    · rw [if_neg (by decide), if_neg (by decide)]
    · rw [if_pos rfl, if_pos rfl, h n (by omega) hk]
      cases boF ok v t n with
      | none => rfl
      | some b =>
        show some _ = some _
        congr 1
        cases t
        · rw [if_neg (by decide), if_neg (by decide)]; (try dsimp only); omega
        · rw [if_pos rfl, if_pos rfl]; (try dsimp only); omega
theorem bo_stop {ok : Nat → Bool} {v : Nat → Nat} {t : Bool} {n : Nat} : ∀ (m : Nat), (∀ i, n ≤ i → i < n + m → ok i = false) → boF ok v t (n + m) = boF ok v t n := by
  intro m
  induction m with
  | zero => intro _; rfl
  | succ m ih =>
    intro h
    rw [← Nat.add_assoc, boF, h (n + m) (by omega) (by omega), if_neg (by decide)]
    exact ih (fun i h1 h2 => h i h1 (by omega))
/-- what the reference's row says of a code, with k turns left -/
def tE (Y : Nat → Nat → Nat) (k : Nat) (t : Bool) (code : Nat) : Nat := bct (sO code 2 (Y 6 0)) + TT (ycz Y) k (sO code 0 (Y 6 0)) ((Y 6 2 : Int) - (csum (ycz Y) 5 (sO code 2 (Y 6 0)) : Int)) t
def mayF (Y : Nat → Nat → Nat) (t : Bool) (code i : Nat) : Bool := (sO code 0 (Y 6 0)).testBit i && (t || decide ((ycz Y i : Int) ≤ (Y 6 2 : Int) - (csum (ycz Y) 5 (sO code 2 (Y 6 0)) : Int)))
section
variable {d B : Nat} {S : MS} {Y Y0 : Nat → Nat → Nat} {P : Option AV → MS → Prop}
theorem tE_step (ho : YOk B Y) {k : Nat} {t : Bool} {code : Nat} (hc : code < 3 ^ Y 6 0) : tE Y (k + 1) t code = (boF (mayF Y t code) (fun i => tE Y k (!t) (code + (if t = true then 3 ^ i else 2 * 3 ^ i))) t (Y 6 0)).getD (tE Y k (!t) code) := by
  have hn5 := ho.1.1
  have h243 := p3_le hn5
  have hL := sO_lt (code := code) (w := 0) (Y 6 0)
  have h32 := p2_lt hn5
  unfold tE
  rw [TT]
  have hstop := bo_stop (ok := mayF Y t code) (v := fun i => (if t = true then 0 else 1) + TT (ycz Y) k (sO code 0 (Y 6 0) &&& (31 - 2 ^ i)) ((Y 6 2 : Int) - (csum (ycz Y) 5 (sO code 2 (Y 6 0)) : Int) - (if t = true then 0 else (ycz Y i : Int))) (!t)) (t := t) (n := Y 6 0) (5 - Y 6 0) (fun i h1 h2 => by
    unfold mayF
    rw [Nat.testBit_lt_two_pow (Nat.lt_of_lt_of_le hL (Nat.pow_le_pow_right (by decide) h1)), Bool.false_and])
  rw [show Y 6 0 + (5 - Y 6 0) = 5 by omega] at hstop
  have e1 : (fun i => (sO code 0 (Y 6 0)).testBit i && (t || decide ((ycz Y i : Int) ≤ (Y 6 2 : Int) - (csum (ycz Y) 5 (sO code 2 (Y 6 0)) : Int)))) = mayF Y t code := rfl
  rw [e1, hstop]
  have hsh := bo_shift (ok := mayF Y t code) (t := t) (a := bct (sO code 2 (Y 6 0))) (v := fun i => (if t = true then 0 else 1) + TT (ycz Y) k (sO code 0 (Y 6 0) &&& (31 - 2 ^ i)) ((Y 6 2 : Int) - (csum (ycz Y) 5 (sO code 2 (Y 6 0)) : Int) - (if t = true then 0 else (ycz Y i : Int))) (!t)) (u := fun i => bct (sO (code + (if t = true then 3 ^ i else 2 * 3 ^ i)) 2 (Y 6 0)) + TT (ycz Y) k (sO (code + (if t = true then 3 ^ i else 2 * 3 ^ i)) 0 (Y 6 0)) ((Y 6 2 : Int) - (csum (ycz Y) 5 (sO (code + (if t = true then 3 ^ i else 2 * 3 ^ i)) 2 (Y 6 0)) : Int)) (!t)) (Y 6 0) (fun i hi hk => by
    unfold mayF at hk
    have hb := (Bool.and_eq_true_iff.mp hk).1
    obtain ⟨s1, s2, s3, s4, s5, s6⟩ := sO_step (by omega) (by omega) (by omega) hi hc hb
    try dsimp only
    cases t
    · simp only [Bool.false_eq_true, if_false]
      have hb1 : bct (sO code 2 (Y 6 0) ||| 2 ^ i) = bct (sO code 2 (Y 6 0)) + 1 := by
        unfold bct
        rw [csum_ins s6, if_pos (by omega)]
      have hb2 : csum (ycz Y) 5 (sO code 2 (Y 6 0) ||| 2 ^ i) = csum (ycz Y) 5 (sO code 2 (Y 6 0)) + ycz Y i := by rw [csum_ins s6, if_pos (by omega)]
      rw [s3, s4, hb1, hb2, show ((Y 6 2 : Int) - ((csum (ycz Y) 5 (sO code 2 (Y 6 0)) + ycz Y i : Nat) : Int)) = (Y 6 2 : Int) - (csum (ycz Y) 5 (sO code 2 (Y 6 0)) : Int) - (ycz Y i : Int) by omega]
      omega
    · simp only [if_true]
      rw [s1, s2, Int.sub_zero]
      omega)
  rw [hsh]
  cases boF (mayF Y t code) (fun i => (if t = true then 0 else 1) + TT (ycz Y) k (sO code 0 (Y 6 0) &&& (31 - 2 ^ i)) ((Y 6 2 : Int) - (csum (ycz Y) 5 (sO code 2 (Y 6 0)) : Int) - (if t = true then 0 else (ycz Y i : Int))) (!t)) t (Y 6 0) with
  | none => rfl
  | some b => rfl
theorem tE_le {k : Nat} {t : Bool} {code : Nat} (hn5 : Y 6 0 ≤ 5) : tE Y k t code ≤ 6 + k := by
  have h1 := TT_le (c := ycz Y) k (sO code 0 (Y 6 0)) ((Y 6 2 : Int) - (csum (ycz Y) 5 (sO code 2 (Y 6 0)) : Int)) t
  have h2 := sO_lt (code := code) (w := 2) (Y 6 0)
  have h3 := p2_lt hn5
  have h4 := bct_lt (s := sO code 2 (Y 6 0)) (by omega)
  unfold tE
  omega
theorem l_codes (hm : YrM S 40 Y) (hn5 : Y 6 0 ≤ 5) (q : P (some (aI (nI (3 ^ Y 6 0)))) S) : ∀ (m i : Nat), i + m = Y 6 0 → wpX d mX9_codes 4 [aR 8 0, aI (nI (3 ^ i)), aI (nI i)] [] S P := by
  intro m
  induction m with
  | zero =>
    intro i hi
    have e : i = Y 6 0 := by omega
    subst e
    refine s_X9_codes_4 ?_
    simp (disch := omega) only [B_X9_codes_4, wi_iload_n, wi_aload_n, wi_getfield, fldv_8_10, fds_8_10, cnt_8, wi_icmp_ge, wi_iconst, wi_imul, wi_istore_n, wi_iinc, wi_goto, no0, no1, nz1, nz2, nz3, nz4, nz5, nz7, nz8, Classical.not_not, bz0, bz1, wi_nil, ld_0, ld_s, isIv_I, isLv_L, isRv_R, true_and, and_true, lset_0, lset_1, lset_s, avw_I, avw_L, avw_R, clr_cons, clr_nil, kst_0, kst_1, kstL_0, kstL_1, addk_I, pA_0, pA_s, pD_0, pD_s, wid_nil, wid_cons, rcv_c, putv_I, putv_L, List.length_cons, List.length_nil, List.set_cons_zero, List.set_cons_succ, not_false_eq_true, Nat.reduceMod, Nat.reduceDiv, Nat.reduceEqDiff, Nat.reduceLT, Nat.reduceLeDiff, Nat.reduceAdd, Nat.reduceSub, reduceIte, Nat.lt_irrefl, Nat.zero_ne_one, Nat.one_ne_zero, Nat.zero_add, List.nil_append, List.cons_append, Option.toList_some, Option.toList_none, forall_const, false_implies, true_implies, false_or, or_false, true_or, or_true, i_le, i_lt, i_eq, i_eq0, i_lt0, i_0le, i_0lt, i_le0, i_in1, i_cl, nI_add, pk_mul, pk_sub, i_div, i_rem, i_sh1, i_bit, i_or, i_and, i_andn, nt_le, nf_le, nt_lt, nf_lt, nt_eq, nf_eq, not_true_eq_false, and_self, and_false, false_and, eq_self, Bool.toNat_true, Bool.toNat_false, i_bool, i_bool1, Bool.false_eq_true, Bool.true_eq_false, reduceCtorEq, i_neg1, i_neg2, i_neg3, i_neg4, i_neg5, i_neg6, i_neg7, i_neg8, i_neg9, i_nega, i_negb, i_negc, i_max2, i_min2, (m_n hm)]
    try simp (disch := omega) only [no0, no1, nz1, nz2, nz3, nz4, nz5, nz7, nz8, Classical.not_not, bz0, bz1, wi_nil, ld_0, ld_s, isIv_I, isLv_L, isRv_R, true_and, and_true, lset_0, lset_1, lset_s, avw_I, avw_L, avw_R, clr_cons, clr_nil, kst_0, kst_1, kstL_0, kstL_1, addk_I, pA_0, pA_s, pD_0, pD_s, wid_nil, wid_cons, rcv_c, putv_I, putv_L, List.length_cons, List.length_nil, List.set_cons_zero, List.set_cons_succ, not_false_eq_true, Nat.reduceMod, Nat.reduceDiv, Nat.reduceEqDiff, Nat.reduceLT, Nat.reduceLeDiff, Nat.reduceAdd, Nat.reduceSub, reduceIte, Nat.lt_irrefl, Nat.zero_ne_one, Nat.one_ne_zero, Nat.zero_add, List.nil_append, List.cons_append, Option.toList_some, Option.toList_none, forall_const, false_implies, true_implies, false_or, or_false, true_or, or_true, i_le, i_lt, i_eq, i_eq0, i_lt0, i_0le, i_0lt, i_le0, i_in1, i_cl, nI_add, pk_mul, pk_sub, i_div, i_rem, i_sh1, i_bit, i_or, i_and, i_andn, nt_le, nf_le, nt_lt, nf_lt, nt_eq, nf_eq, not_true_eq_false, and_self, and_false, false_and, eq_self, Bool.toNat_true, Bool.toNat_false, i_bool, i_bool1, Bool.false_eq_true, Bool.true_eq_false, reduceCtorEq, i_neg1, i_neg2, i_neg3, i_neg4, i_neg5, i_neg6, i_neg7, i_neg8, i_neg9, i_nega, i_negb, i_negc, i_max2, i_min2, wi_nil]
    repeat (
      first
      | refine s_X9_codes_0 ?_
      | refine s_X9_codes_22 ?_
      simp (disch := omega) only [B_X9_codes_0, wi_iconst, wi_istore_n, B_X9_codes_4, wi_iload_n, wi_aload_n, wi_getfield, fldv_8_10, fds_8_10, cnt_8, wi_icmp_ge, wi_imul, wi_iinc, wi_goto, B_X9_codes_22, wi_ireturn, no0, no1, nz1, nz2, nz3, nz4, nz5, nz7, nz8, Classical.not_not, bz0, bz1, wi_nil, ld_0, ld_s, isIv_I, isLv_L, isRv_R, true_and, and_true, lset_0, lset_1, lset_s, avw_I, avw_L, avw_R, clr_cons, clr_nil, kst_0, kst_1, kstL_0, kstL_1, addk_I, pA_0, pA_s, pD_0, pD_s, wid_nil, wid_cons, rcv_c, putv_I, putv_L, List.length_cons, List.length_nil, List.set_cons_zero, List.set_cons_succ, not_false_eq_true, Nat.reduceMod, Nat.reduceDiv, Nat.reduceEqDiff, Nat.reduceLT, Nat.reduceLeDiff, Nat.reduceAdd, Nat.reduceSub, reduceIte, Nat.lt_irrefl, Nat.zero_ne_one, Nat.one_ne_zero, Nat.zero_add, List.nil_append, List.cons_append, Option.toList_some, Option.toList_none, forall_const, false_implies, true_implies, false_or, or_false, true_or, or_true, i_le, i_lt, i_eq, i_eq0, i_lt0, i_0le, i_0lt, i_le0, i_in1, i_cl, nI_add, pk_mul, pk_sub, i_div, i_rem, i_sh1, i_bit, i_or, i_and, i_andn, nt_le, nf_le, nt_lt, nf_lt, nt_eq, nf_eq, not_true_eq_false, and_self, and_false, false_and, eq_self, Bool.toNat_true, Bool.toNat_false, i_bool, i_bool1, Bool.false_eq_true, Bool.true_eq_false, reduceCtorEq, i_neg1, i_neg2, i_neg3, i_neg4, i_neg5, i_neg6, i_neg7, i_neg8, i_neg9, i_nega, i_negb, i_negc, i_max2, i_min2])
    exact q
  | succ m ih =>
    intro i hi
    have hnx := ih (i + 1) (by omega)
    rw [Nat.pow_succ] at hnx
    refine s_X9_codes_4 ?_
    simp (disch := omega) only [B_X9_codes_4, wi_iload_n, wi_aload_n, wi_getfield, fldv_8_10, fds_8_10, cnt_8, wi_icmp_ge, wi_iconst, wi_imul, wi_istore_n, wi_iinc, wi_goto, no0, no1, nz1, nz2, nz3, nz4, nz5, nz7, nz8, Classical.not_not, bz0, bz1, wi_nil, ld_0, ld_s, isIv_I, isLv_L, isRv_R, true_and, and_true, lset_0, lset_1, lset_s, avw_I, avw_L, avw_R, clr_cons, clr_nil, kst_0, kst_1, kstL_0, kstL_1, addk_I, pA_0, pA_s, pD_0, pD_s, wid_nil, wid_cons, rcv_c, putv_I, putv_L, List.length_cons, List.length_nil, List.set_cons_zero, List.set_cons_succ, not_false_eq_true, Nat.reduceMod, Nat.reduceDiv, Nat.reduceEqDiff, Nat.reduceLT, Nat.reduceLeDiff, Nat.reduceAdd, Nat.reduceSub, reduceIte, Nat.lt_irrefl, Nat.zero_ne_one, Nat.one_ne_zero, Nat.zero_add, List.nil_append, List.cons_append, Option.toList_some, Option.toList_none, forall_const, false_implies, true_implies, false_or, or_false, true_or, or_true, i_le, i_lt, i_eq, i_eq0, i_lt0, i_0le, i_0lt, i_le0, i_in1, i_cl, nI_add, pk_mul, pk_sub, i_div, i_rem, i_sh1, i_bit, i_or, i_and, i_andn, nt_le, nf_le, nt_lt, nf_lt, nt_eq, nf_eq, not_true_eq_false, and_self, and_false, false_and, eq_self, Bool.toNat_true, Bool.toNat_false, i_bool, i_bool1, Bool.false_eq_true, Bool.true_eq_false, reduceCtorEq, i_neg1, i_neg2, i_neg3, i_neg4, i_neg5, i_neg6, i_neg7, i_neg8, i_neg9, i_nega, i_negb, i_negc, i_max2, i_min2, (m_n hm)]
    exact hnx
theorem c_codes (hm : YrM S 40 Y) (hn5 : Y 6 0 ≤ 5) (q : P (some (aI (nI (3 ^ Y 6 0)))) S) : wpM (d + 1) mX9_codes [aR 8 0] S P := by
  refine x_entry (ls2 := [aR 8 0, aU, aU]) (Nat.le_of_ble_eq_true rfl) pl_9 rfl (Nat.le_of_ble_eq_true rfl) ?_
  try simp (disch := omega) only [no0, no1, nz1, nz2, nz3, nz4, nz5, nz7, nz8, Classical.not_not, bz0, bz1, wi_nil, ld_0, ld_s, isIv_I, isLv_L, isRv_R, true_and, and_true, lset_0, lset_1, lset_s, avw_I, avw_L, avw_R, clr_cons, clr_nil, kst_0, kst_1, kstL_0, kstL_1, addk_I, pA_0, pA_s, pD_0, pD_s, wid_nil, wid_cons, rcv_c, putv_I, putv_L, List.length_cons, List.length_nil, List.set_cons_zero, List.set_cons_succ, not_false_eq_true, Nat.reduceMod, Nat.reduceDiv, Nat.reduceEqDiff, Nat.reduceLT, Nat.reduceLeDiff, Nat.reduceAdd, Nat.reduceSub, reduceIte, Nat.lt_irrefl, Nat.zero_ne_one, Nat.one_ne_zero, Nat.zero_add, List.nil_append, List.cons_append, Option.toList_some, Option.toList_none, forall_const, false_implies, true_implies, false_or, or_false, true_or, or_true, i_le, i_lt, i_eq, i_eq0, i_lt0, i_0le, i_0lt, i_le0, i_in1, i_cl, nI_add, pk_mul, pk_sub, i_div, i_rem, i_sh1, i_bit, i_or, i_and, i_andn, nt_le, nf_le, nt_lt, nf_lt, nt_eq, nf_eq, not_true_eq_false, and_self, and_false, false_and, eq_self, Bool.toNat_true, Bool.toNat_false, i_bool, i_bool1, Bool.false_eq_true, Bool.true_eq_false, reduceCtorEq, i_neg1, i_neg2, i_neg3, i_neg4, i_neg5, i_neg6, i_neg7, i_neg8, i_neg9, i_nega, i_negb, i_negc, i_max2, i_min2, wi_nil]
  repeat (
    first
    | refine s_X9_codes_0 ?_
    | refine s_X9_codes_22 ?_
    simp (disch := omega) only [B_X9_codes_0, wi_iconst, wi_istore_n, B_X9_codes_4, wi_iload_n, wi_aload_n, wi_getfield, fldv_8_10, fds_8_10, cnt_8, wi_icmp_ge, wi_imul, wi_iinc, wi_goto, B_X9_codes_22, wi_ireturn, no0, no1, nz1, nz2, nz3, nz4, nz5, nz7, nz8, Classical.not_not, bz0, bz1, wi_nil, ld_0, ld_s, isIv_I, isLv_L, isRv_R, true_and, and_true, lset_0, lset_1, lset_s, avw_I, avw_L, avw_R, clr_cons, clr_nil, kst_0, kst_1, kstL_0, kstL_1, addk_I, pA_0, pA_s, pD_0, pD_s, wid_nil, wid_cons, rcv_c, putv_I, putv_L, List.length_cons, List.length_nil, List.set_cons_zero, List.set_cons_succ, not_false_eq_true, Nat.reduceMod, Nat.reduceDiv, Nat.reduceEqDiff, Nat.reduceLT, Nat.reduceLeDiff, Nat.reduceAdd, Nat.reduceSub, reduceIte, Nat.lt_irrefl, Nat.zero_ne_one, Nat.one_ne_zero, Nat.zero_add, List.nil_append, List.cons_append, Option.toList_some, Option.toList_none, forall_const, false_implies, true_implies, false_or, or_false, true_or, or_true, i_le, i_lt, i_eq, i_eq0, i_lt0, i_0le, i_0lt, i_le0, i_in1, i_cl, nI_add, pk_mul, pk_sub, i_div, i_rem, i_sh1, i_bit, i_or, i_and, i_andn, nt_le, nf_le, nt_lt, nf_lt, nt_eq, nf_eq, not_true_eq_false, and_self, and_false, false_and, eq_self, Bool.toNat_true, Bool.toNat_false, i_bool, i_bool1, Bool.false_eq_true, Bool.true_eq_false, reduceCtorEq, i_neg1, i_neg2, i_neg3, i_neg4, i_neg5, i_neg6, i_neg7, i_neg8, i_neg9, i_nega, i_negb, i_negc, i_max2, i_min2])
  exact l_codes hm hn5 q (Y 6 0) 0 (by omega)
theorem l_setOf {code w : Nat} (hc : code < 243) (hw : w < 3) (hm : YrM S 40 Y) (hn5 : Y 6 0 ≤ 5) (q : P (some (aI (nI (sO code w (Y 6 0))))) S) : ∀ (m i : Nat), i + m = Y 6 0 → wpX d mX9_setOf 8 [aR 8 0, aU, aI (nI w), aI (nI (code / 3 ^ i)), aI (nI (sO code w i)), aI (nI i)] [] S P := by
  intro m
  induction m with
  | zero =>
    intro i hi
    have e : i = Y 6 0 := by omega
    subst e
    refine s_X9_setOf_8 ?_
    simp (disch := omega) only [B_X9_setOf_8, wi_iload, wi_aload_n, wi_getfield, fldv_8_10, fds_8_10, cnt_8, wi_icmp_ge, wi_iload_n, wi_iconst, wi_irem, wi_icmp_ne, wi_ishl, wi_goto, no0, no1, nz1, nz2, nz3, nz4, nz5, nz7, nz8, Classical.not_not, bz0, bz1, wi_nil, ld_0, ld_s, isIv_I, isLv_L, isRv_R, true_and, and_true, lset_0, lset_1, lset_s, avw_I, avw_L, avw_R, clr_cons, clr_nil, kst_0, kst_1, kstL_0, kstL_1, addk_I, pA_0, pA_s, pD_0, pD_s, wid_nil, wid_cons, rcv_c, putv_I, putv_L, List.length_cons, List.length_nil, List.set_cons_zero, List.set_cons_succ, not_false_eq_true, Nat.reduceMod, Nat.reduceDiv, Nat.reduceEqDiff, Nat.reduceLT, Nat.reduceLeDiff, Nat.reduceAdd, Nat.reduceSub, reduceIte, Nat.lt_irrefl, Nat.zero_ne_one, Nat.one_ne_zero, Nat.zero_add, List.nil_append, List.cons_append, Option.toList_some, Option.toList_none, forall_const, false_implies, true_implies, false_or, or_false, true_or, or_true, i_le, i_lt, i_eq, i_eq0, i_lt0, i_0le, i_0lt, i_le0, i_in1, i_cl, nI_add, pk_mul, pk_sub, i_div, i_rem, i_sh1, i_bit, i_or, i_and, i_andn, nt_le, nf_le, nt_lt, nf_lt, nt_eq, nf_eq, not_true_eq_false, and_self, and_false, false_and, eq_self, Bool.toNat_true, Bool.toNat_false, i_bool, i_bool1, Bool.false_eq_true, Bool.true_eq_false, reduceCtorEq, i_neg1, i_neg2, i_neg3, i_neg4, i_neg5, i_neg6, i_neg7, i_neg8, i_neg9, i_nega, i_negb, i_negc, i_max2, i_min2, (m_n hm)]
    try simp (disch := omega) only [no0, no1, nz1, nz2, nz3, nz4, nz5, nz7, nz8, Classical.not_not, bz0, bz1, wi_nil, ld_0, ld_s, isIv_I, isLv_L, isRv_R, true_and, and_true, lset_0, lset_1, lset_s, avw_I, avw_L, avw_R, clr_cons, clr_nil, kst_0, kst_1, kstL_0, kstL_1, addk_I, pA_0, pA_s, pD_0, pD_s, wid_nil, wid_cons, rcv_c, putv_I, putv_L, List.length_cons, List.length_nil, List.set_cons_zero, List.set_cons_succ, not_false_eq_true, Nat.reduceMod, Nat.reduceDiv, Nat.reduceEqDiff, Nat.reduceLT, Nat.reduceLeDiff, Nat.reduceAdd, Nat.reduceSub, reduceIte, Nat.lt_irrefl, Nat.zero_ne_one, Nat.one_ne_zero, Nat.zero_add, List.nil_append, List.cons_append, Option.toList_some, Option.toList_none, forall_const, false_implies, true_implies, false_or, or_false, true_or, or_true, i_le, i_lt, i_eq, i_eq0, i_lt0, i_0le, i_0lt, i_le0, i_in1, i_cl, nI_add, pk_mul, pk_sub, i_div, i_rem, i_sh1, i_bit, i_or, i_and, i_andn, nt_le, nf_le, nt_lt, nf_lt, nt_eq, nf_eq, not_true_eq_false, and_self, and_false, false_and, eq_self, Bool.toNat_true, Bool.toNat_false, i_bool, i_bool1, Bool.false_eq_true, Bool.true_eq_false, reduceCtorEq, i_neg1, i_neg2, i_neg3, i_neg4, i_neg5, i_neg6, i_neg7, i_neg8, i_neg9, i_nega, i_negb, i_negc, i_max2, i_min2, wi_nil]
    repeat (
      first
      | refine s_X9_setOf_0 ?_
      | refine s_X9_setOf_33 ?_
      | refine s_X9_setOf_34 ?_
      | refine s_X9_setOf_47 ?_
      simp (disch := omega) only [B_X9_setOf_0, wi_iload_n, wi_istore_n, wi_iconst, wi_istore, B_X9_setOf_8, wi_iload, wi_aload_n, wi_getfield, fldv_8_10, fds_8_10, cnt_8, wi_icmp_ge, wi_irem, wi_icmp_ne, wi_ishl, wi_goto, B_X9_setOf_33, B_X9_setOf_34, wi_ior, wi_idiv, wi_iinc, B_X9_setOf_47, wi_ireturn, no0, no1, nz1, nz2, nz3, nz4, nz5, nz7, nz8, Classical.not_not, bz0, bz1, wi_nil, ld_0, ld_s, isIv_I, isLv_L, isRv_R, true_and, and_true, lset_0, lset_1, lset_s, avw_I, avw_L, avw_R, clr_cons, clr_nil, kst_0, kst_1, kstL_0, kstL_1, addk_I, pA_0, pA_s, pD_0, pD_s, wid_nil, wid_cons, rcv_c, putv_I, putv_L, List.length_cons, List.length_nil, List.set_cons_zero, List.set_cons_succ, not_false_eq_true, Nat.reduceMod, Nat.reduceDiv, Nat.reduceEqDiff, Nat.reduceLT, Nat.reduceLeDiff, Nat.reduceAdd, Nat.reduceSub, reduceIte, Nat.lt_irrefl, Nat.zero_ne_one, Nat.one_ne_zero, Nat.zero_add, List.nil_append, List.cons_append, Option.toList_some, Option.toList_none, forall_const, false_implies, true_implies, false_or, or_false, true_or, or_true, i_le, i_lt, i_eq, i_eq0, i_lt0, i_0le, i_0lt, i_le0, i_in1, i_cl, nI_add, pk_mul, pk_sub, i_div, i_rem, i_sh1, i_bit, i_or, i_and, i_andn, nt_le, nf_le, nt_lt, nf_lt, nt_eq, nf_eq, not_true_eq_false, and_self, and_false, false_and, eq_self, Bool.toNat_true, Bool.toNat_false, i_bool, i_bool1, Bool.false_eq_true, Bool.true_eq_false, reduceCtorEq, i_neg1, i_neg2, i_neg3, i_neg4, i_neg5, i_neg6, i_neg7, i_neg8, i_neg9, i_nega, i_negb, i_negc, i_max2, i_min2])
    exact q
  | succ m ih =>
    intro i hi
    have hnx := ih (i + 1) (by omega)
    rw [sO, Nat.pow_succ, ← Nat.div_div_eq_div_mul] at hnx
    have hle : code / 3 ^ i ≤ code := Nat.div_le_self _ _
    generalize hx : code / 3 ^ i = x at hle hnx ⊢
    by_cases c : x % 3 = w
    · rw [if_pos c] at hnx
      refine s_X9_setOf_8 ?_
      simp (disch := omega) only [B_X9_setOf_8, wi_iload, wi_aload_n, wi_getfield, fldv_8_10, fds_8_10, cnt_8, wi_icmp_ge, wi_iload_n, wi_iconst, wi_irem, wi_icmp_ne, wi_ishl, wi_goto, no0, no1, nz1, nz2, nz3, nz4, nz5, nz7, nz8, Classical.not_not, bz0, bz1, wi_nil, ld_0, ld_s, isIv_I, isLv_L, isRv_R, true_and, and_true, lset_0, lset_1, lset_s, avw_I, avw_L, avw_R, clr_cons, clr_nil, kst_0, kst_1, kstL_0, kstL_1, addk_I, pA_0, pA_s, pD_0, pD_s, wid_nil, wid_cons, rcv_c, putv_I, putv_L, List.length_cons, List.length_nil, List.set_cons_zero, List.set_cons_succ, not_false_eq_true, Nat.reduceMod, Nat.reduceDiv, Nat.reduceEqDiff, Nat.reduceLT, Nat.reduceLeDiff, Nat.reduceAdd, Nat.reduceSub, reduceIte, Nat.lt_irrefl, Nat.zero_ne_one, Nat.one_ne_zero, Nat.zero_add, List.nil_append, List.cons_append, Option.toList_some, Option.toList_none, forall_const, false_implies, true_implies, false_or, or_false, true_or, or_true, i_le, i_lt, i_eq, i_eq0, i_lt0, i_0le, i_0lt, i_le0, i_in1, i_cl, nI_add, pk_mul, pk_sub, i_div, i_rem, i_sh1, i_bit, i_or, i_and, i_andn, nt_le, nf_le, nt_lt, nf_lt, nt_eq, nf_eq, not_true_eq_false, and_self, and_false, false_and, eq_self, Bool.toNat_true, Bool.toNat_false, i_bool, i_bool1, Bool.false_eq_true, Bool.true_eq_false, reduceCtorEq, i_neg1, i_neg2, i_neg3, i_neg4, i_neg5, i_neg6, i_neg7, i_neg8, i_neg9, i_nega, i_negb, i_negc, i_max2, i_min2, (m_n hm)]
      try simp (disch := omega) only [no0, no1, nz1, nz2, nz3, nz4, nz5, nz7, nz8, Classical.not_not, bz0, bz1, wi_nil, ld_0, ld_s, isIv_I, isLv_L, isRv_R, true_and, and_true, lset_0, lset_1, lset_s, avw_I, avw_L, avw_R, clr_cons, clr_nil, kst_0, kst_1, kstL_0, kstL_1, addk_I, pA_0, pA_s, pD_0, pD_s, wid_nil, wid_cons, rcv_c, putv_I, putv_L, List.length_cons, List.length_nil, List.set_cons_zero, List.set_cons_succ, not_false_eq_true, Nat.reduceMod, Nat.reduceDiv, Nat.reduceEqDiff, Nat.reduceLT, Nat.reduceLeDiff, Nat.reduceAdd, Nat.reduceSub, reduceIte, Nat.lt_irrefl, Nat.zero_ne_one, Nat.one_ne_zero, Nat.zero_add, List.nil_append, List.cons_append, Option.toList_some, Option.toList_none, forall_const, false_implies, true_implies, false_or, or_false, true_or, or_true, i_le, i_lt, i_eq, i_eq0, i_lt0, i_0le, i_0lt, i_le0, i_in1, i_cl, nI_add, pk_mul, pk_sub, i_div, i_rem, i_sh1, i_bit, i_or, i_and, i_andn, nt_le, nf_le, nt_lt, nf_lt, nt_eq, nf_eq, not_true_eq_false, and_self, and_false, false_and, eq_self, Bool.toNat_true, Bool.toNat_false, i_bool, i_bool1, Bool.false_eq_true, Bool.true_eq_false, reduceCtorEq, i_neg1, i_neg2, i_neg3, i_neg4, i_neg5, i_neg6, i_neg7, i_neg8, i_neg9, i_nega, i_negb, i_negc, i_max2, i_min2, wi_nil]
      repeat (
        first
        | refine s_X9_setOf_0 ?_
        | refine s_X9_setOf_33 ?_
        | refine s_X9_setOf_34 ?_
        | refine s_X9_setOf_47 ?_
        simp (disch := omega) only [B_X9_setOf_0, wi_iload_n, wi_istore_n, wi_iconst, wi_istore, B_X9_setOf_8, wi_iload, wi_aload_n, wi_getfield, fldv_8_10, fds_8_10, cnt_8, wi_icmp_ge, wi_irem, wi_icmp_ne, wi_ishl, wi_goto, B_X9_setOf_33, B_X9_setOf_34, wi_ior, wi_idiv, wi_iinc, B_X9_setOf_47, wi_ireturn, no0, no1, nz1, nz2, nz3, nz4, nz5, nz7, nz8, Classical.not_not, bz0, bz1, wi_nil, ld_0, ld_s, isIv_I, isLv_L, isRv_R, true_and, and_true, lset_0, lset_1, lset_s, avw_I, avw_L, avw_R, clr_cons, clr_nil, kst_0, kst_1, kstL_0, kstL_1, addk_I, pA_0, pA_s, pD_0, pD_s, wid_nil, wid_cons, rcv_c, putv_I, putv_L, List.length_cons, List.length_nil, List.set_cons_zero, List.set_cons_succ, not_false_eq_true, Nat.reduceMod, Nat.reduceDiv, Nat.reduceEqDiff, Nat.reduceLT, Nat.reduceLeDiff, Nat.reduceAdd, Nat.reduceSub, reduceIte, Nat.lt_irrefl, Nat.zero_ne_one, Nat.one_ne_zero, Nat.zero_add, List.nil_append, List.cons_append, Option.toList_some, Option.toList_none, forall_const, false_implies, true_implies, false_or, or_false, true_or, or_true, i_le, i_lt, i_eq, i_eq0, i_lt0, i_0le, i_0lt, i_le0, i_in1, i_cl, nI_add, pk_mul, pk_sub, i_div, i_rem, i_sh1, i_bit, i_or, i_and, i_andn, nt_le, nf_le, nt_lt, nf_lt, nt_eq, nf_eq, not_true_eq_false, and_self, and_false, false_and, eq_self, Bool.toNat_true, Bool.toNat_false, i_bool, i_bool1, Bool.false_eq_true, Bool.true_eq_false, reduceCtorEq, i_neg1, i_neg2, i_neg3, i_neg4, i_neg5, i_neg6, i_neg7, i_neg8, i_neg9, i_nega, i_negb, i_negc, i_max2, i_min2])
      exact hnx
    · rw [if_neg c] at hnx
      refine s_X9_setOf_8 ?_
      simp (disch := omega) only [B_X9_setOf_8, wi_iload, wi_aload_n, wi_getfield, fldv_8_10, fds_8_10, cnt_8, wi_icmp_ge, wi_iload_n, wi_iconst, wi_irem, wi_icmp_ne, wi_ishl, wi_goto, no0, no1, nz1, nz2, nz3, nz4, nz5, nz7, nz8, Classical.not_not, bz0, bz1, wi_nil, ld_0, ld_s, isIv_I, isLv_L, isRv_R, true_and, and_true, lset_0, lset_1, lset_s, avw_I, avw_L, avw_R, clr_cons, clr_nil, kst_0, kst_1, kstL_0, kstL_1, addk_I, pA_0, pA_s, pD_0, pD_s, wid_nil, wid_cons, rcv_c, putv_I, putv_L, List.length_cons, List.length_nil, List.set_cons_zero, List.set_cons_succ, not_false_eq_true, Nat.reduceMod, Nat.reduceDiv, Nat.reduceEqDiff, Nat.reduceLT, Nat.reduceLeDiff, Nat.reduceAdd, Nat.reduceSub, reduceIte, Nat.lt_irrefl, Nat.zero_ne_one, Nat.one_ne_zero, Nat.zero_add, List.nil_append, List.cons_append, Option.toList_some, Option.toList_none, forall_const, false_implies, true_implies, false_or, or_false, true_or, or_true, i_le, i_lt, i_eq, i_eq0, i_lt0, i_0le, i_0lt, i_le0, i_in1, i_cl, nI_add, pk_mul, pk_sub, i_div, i_rem, i_sh1, i_bit, i_or, i_and, i_andn, nt_le, nf_le, nt_lt, nf_lt, nt_eq, nf_eq, not_true_eq_false, and_self, and_false, false_and, eq_self, Bool.toNat_true, Bool.toNat_false, i_bool, i_bool1, Bool.false_eq_true, Bool.true_eq_false, reduceCtorEq, i_neg1, i_neg2, i_neg3, i_neg4, i_neg5, i_neg6, i_neg7, i_neg8, i_neg9, i_nega, i_negb, i_negc, i_max2, i_min2, (m_n hm)]
      try simp (disch := omega) only [no0, no1, nz1, nz2, nz3, nz4, nz5, nz7, nz8, Classical.not_not, bz0, bz1, wi_nil, ld_0, ld_s, isIv_I, isLv_L, isRv_R, true_and, and_true, lset_0, lset_1, lset_s, avw_I, avw_L, avw_R, clr_cons, clr_nil, kst_0, kst_1, kstL_0, kstL_1, addk_I, pA_0, pA_s, pD_0, pD_s, wid_nil, wid_cons, rcv_c, putv_I, putv_L, List.length_cons, List.length_nil, List.set_cons_zero, List.set_cons_succ, not_false_eq_true, Nat.reduceMod, Nat.reduceDiv, Nat.reduceEqDiff, Nat.reduceLT, Nat.reduceLeDiff, Nat.reduceAdd, Nat.reduceSub, reduceIte, Nat.lt_irrefl, Nat.zero_ne_one, Nat.one_ne_zero, Nat.zero_add, List.nil_append, List.cons_append, Option.toList_some, Option.toList_none, forall_const, false_implies, true_implies, false_or, or_false, true_or, or_true, i_le, i_lt, i_eq, i_eq0, i_lt0, i_0le, i_0lt, i_le0, i_in1, i_cl, nI_add, pk_mul, pk_sub, i_div, i_rem, i_sh1, i_bit, i_or, i_and, i_andn, nt_le, nf_le, nt_lt, nf_lt, nt_eq, nf_eq, not_true_eq_false, and_self, and_false, false_and, eq_self, Bool.toNat_true, Bool.toNat_false, i_bool, i_bool1, Bool.false_eq_true, Bool.true_eq_false, reduceCtorEq, i_neg1, i_neg2, i_neg3, i_neg4, i_neg5, i_neg6, i_neg7, i_neg8, i_neg9, i_nega, i_negb, i_negc, i_max2, i_min2, wi_nil]
      repeat (
        first
        | refine s_X9_setOf_0 ?_
        | refine s_X9_setOf_33 ?_
        | refine s_X9_setOf_34 ?_
        | refine s_X9_setOf_47 ?_
        simp (disch := omega) only [B_X9_setOf_0, wi_iload_n, wi_istore_n, wi_iconst, wi_istore, B_X9_setOf_8, wi_iload, wi_aload_n, wi_getfield, fldv_8_10, fds_8_10, cnt_8, wi_icmp_ge, wi_irem, wi_icmp_ne, wi_ishl, wi_goto, B_X9_setOf_33, B_X9_setOf_34, wi_ior, wi_idiv, wi_iinc, B_X9_setOf_47, wi_ireturn, no0, no1, nz1, nz2, nz3, nz4, nz5, nz7, nz8, Classical.not_not, bz0, bz1, wi_nil, ld_0, ld_s, isIv_I, isLv_L, isRv_R, true_and, and_true, lset_0, lset_1, lset_s, avw_I, avw_L, avw_R, clr_cons, clr_nil, kst_0, kst_1, kstL_0, kstL_1, addk_I, pA_0, pA_s, pD_0, pD_s, wid_nil, wid_cons, rcv_c, putv_I, putv_L, List.length_cons, List.length_nil, List.set_cons_zero, List.set_cons_succ, not_false_eq_true, Nat.reduceMod, Nat.reduceDiv, Nat.reduceEqDiff, Nat.reduceLT, Nat.reduceLeDiff, Nat.reduceAdd, Nat.reduceSub, reduceIte, Nat.lt_irrefl, Nat.zero_ne_one, Nat.one_ne_zero, Nat.zero_add, List.nil_append, List.cons_append, Option.toList_some, Option.toList_none, forall_const, false_implies, true_implies, false_or, or_false, true_or, or_true, i_le, i_lt, i_eq, i_eq0, i_lt0, i_0le, i_0lt, i_le0, i_in1, i_cl, nI_add, pk_mul, pk_sub, i_div, i_rem, i_sh1, i_bit, i_or, i_and, i_andn, nt_le, nf_le, nt_lt, nf_lt, nt_eq, nf_eq, not_true_eq_false, and_self, and_false, false_and, eq_self, Bool.toNat_true, Bool.toNat_false, i_bool, i_bool1, Bool.false_eq_true, Bool.true_eq_false, reduceCtorEq, i_neg1, i_neg2, i_neg3, i_neg4, i_neg5, i_neg6, i_neg7, i_neg8, i_neg9, i_nega, i_negb, i_negc, i_max2, i_min2])
      exact hnx
theorem c_setOf {code w : Nat} (hc : code < 243) (hw : w < 3) (hm : YrM S 40 Y) (hn5 : Y 6 0 ≤ 5) (q : P (some (aI (nI (sO code w (Y 6 0))))) S) : wpM (d + 1) mX9_setOf [aR 8 0, aI (nI code), aI (nI w)] S P := by
  refine x_entry (ls2 := [aR 8 0, aI (nI code), aI (nI w), aU, aU, aU]) (Nat.le_of_ble_eq_true rfl) pl_9 rfl (Nat.le_of_ble_eq_true rfl) ?_
  try simp (disch := omega) only [no0, no1, nz1, nz2, nz3, nz4, nz5, nz7, nz8, Classical.not_not, bz0, bz1, wi_nil, ld_0, ld_s, isIv_I, isLv_L, isRv_R, true_and, and_true, lset_0, lset_1, lset_s, avw_I, avw_L, avw_R, clr_cons, clr_nil, kst_0, kst_1, kstL_0, kstL_1, addk_I, pA_0, pA_s, pD_0, pD_s, wid_nil, wid_cons, rcv_c, putv_I, putv_L, List.length_cons, List.length_nil, List.set_cons_zero, List.set_cons_succ, not_false_eq_true, Nat.reduceMod, Nat.reduceDiv, Nat.reduceEqDiff, Nat.reduceLT, Nat.reduceLeDiff, Nat.reduceAdd, Nat.reduceSub, reduceIte, Nat.lt_irrefl, Nat.zero_ne_one, Nat.one_ne_zero, Nat.zero_add, List.nil_append, List.cons_append, Option.toList_some, Option.toList_none, forall_const, false_implies, true_implies, false_or, or_false, true_or, or_true, i_le, i_lt, i_eq, i_eq0, i_lt0, i_0le, i_0lt, i_le0, i_in1, i_cl, nI_add, pk_mul, pk_sub, i_div, i_rem, i_sh1, i_bit, i_or, i_and, i_andn, nt_le, nf_le, nt_lt, nf_lt, nt_eq, nf_eq, not_true_eq_false, and_self, and_false, false_and, eq_self, Bool.toNat_true, Bool.toNat_false, i_bool, i_bool1, Bool.false_eq_true, Bool.true_eq_false, reduceCtorEq, i_neg1, i_neg2, i_neg3, i_neg4, i_neg5, i_neg6, i_neg7, i_neg8, i_neg9, i_nega, i_negb, i_negc, i_max2, i_min2, wi_nil]
  repeat (
    first
    | refine s_X9_setOf_0 ?_
    | refine s_X9_setOf_33 ?_
    | refine s_X9_setOf_34 ?_
    | refine s_X9_setOf_47 ?_
    simp (disch := omega) only [B_X9_setOf_0, wi_iload_n, wi_istore_n, wi_iconst, wi_istore, B_X9_setOf_8, wi_iload, wi_aload_n, wi_getfield, fldv_8_10, fds_8_10, cnt_8, wi_icmp_ge, wi_irem, wi_icmp_ne, wi_ishl, wi_goto, B_X9_setOf_33, B_X9_setOf_34, wi_ior, wi_idiv, wi_iinc, B_X9_setOf_47, wi_ireturn, no0, no1, nz1, nz2, nz3, nz4, nz5, nz7, nz8, Classical.not_not, bz0, bz1, wi_nil, ld_0, ld_s, isIv_I, isLv_L, isRv_R, true_and, and_true, lset_0, lset_1, lset_s, avw_I, avw_L, avw_R, clr_cons, clr_nil, kst_0, kst_1, kstL_0, kstL_1, addk_I, pA_0, pA_s, pD_0, pD_s, wid_nil, wid_cons, rcv_c, putv_I, putv_L, List.length_cons, List.length_nil, List.set_cons_zero, List.set_cons_succ, not_false_eq_true, Nat.reduceMod, Nat.reduceDiv, Nat.reduceEqDiff, Nat.reduceLT, Nat.reduceLeDiff, Nat.reduceAdd, Nat.reduceSub, reduceIte, Nat.lt_irrefl, Nat.zero_ne_one, Nat.one_ne_zero, Nat.zero_add, List.nil_append, List.cons_append, Option.toList_some, Option.toList_none, forall_const, false_implies, true_implies, false_or, or_false, true_or, or_true, i_le, i_lt, i_eq, i_eq0, i_lt0, i_0le, i_0lt, i_le0, i_in1, i_cl, nI_add, pk_mul, pk_sub, i_div, i_rem, i_sh1, i_bit, i_or, i_and, i_andn, nt_le, nf_le, nt_lt, nf_lt, nt_eq, nf_eq, not_true_eq_false, and_self, and_false, false_and, eq_self, Bool.toNat_true, Bool.toNat_false, i_bool, i_bool1, Bool.false_eq_true, Bool.true_eq_false, reduceCtorEq, i_neg1, i_neg2, i_neg3, i_neg4, i_neg5, i_neg6, i_neg7, i_neg8, i_neg9, i_nega, i_negb, i_negc, i_max2, i_min2])
  have h := l_setOf (d := d) (P := P) hc hw hm hn5 q (Y 6 0) 0 (by omega)
  rw [Nat.pow_zero, Nat.div_one] at h
  exact h
theorem si_le {a b c : Nat} (ha : a < 2 ^ 28) (hb : b < 2 ^ 28) (hc : c < 2 ^ 28) : (nI a - nI b < nI c) = ((a : Int) - b < (c : Int)) := by
  rw [Int32.lt_iff_toInt_lt, pk_sub_toInt (by omega) (by omega), nI_toInt (by omega)]
theorem l_turned {t : Bool} {code : Nat} {E : Nat → Nat} (hc : code < 3 ^ Y 6 0) (hm : YrM S 40 Y) (ho : YOk 40 Y) (hE : ∀ c, c < 3 ^ Y 6 0 → gA S 49 0 c = nI (E c) ∧ E c ≤ 100) (q : P (some (aI (nI ((boF (mayF Y t code) (fun i => E (code + (if t = true then 3 ^ i else 2 * 3 ^ i))) t (Y 6 0)).getD (E code))))) S) : ∀ (m i : Nat), i + m = Y 6 0 → wpX (d + 4) mX9_turned 40 [aR 8 0, aI (nI code), aI (nI t.toNat), aI (nI (sO code 0 (Y 6 0))), aI (nI (Y 6 2) - nI (csum (ycz Y) 5 (sO code 2 (Y 6 0)))), aI (wrI (boF (mayF Y t code) (fun i => E (code + (if t = true then 3 ^ i else 2 * 3 ^ i))) t i)), aI (nI (3 ^ i)), aI (nI i), aU, aU, aU] [] S P := by
  have hn5 := ho.1.1
  have h243 := p3_le hn5
  have h32 := p2_lt hn5
  have hw40 := ho.1.2.2.1
  have hL := sO_lt (code := code) (w := 0) (Y 6 0)
  have hK := sO_lt (code := code) (w := 2) (Y 6 0)
  have hcK := csum_lt ho (sO code 2 (Y 6 0))
  have hEc := hE code hc
  intro m
  induction m with
  | zero =>
    intro i hi
    have e : i = Y 6 0 := by omega
    subst e
    refine s_X9_turned_40 ?_
    simp (disch := omega) only [B_X9_turned_40, wi_iload, wi_aload_n, wi_getfield, fldv_8_10, fds_8_10, cnt_8, wi_icmp_ge, wi_iload_n, wi_invokestatic, no0, no1, nz1, nz2, nz3, nz4, nz5, nz7, nz8, Classical.not_not, bz0, bz1, wi_nil, ld_0, ld_s, isIv_I, isLv_L, isRv_R, true_and, and_true, lset_0, lset_1, lset_s, avw_I, avw_L, avw_R, clr_cons, clr_nil, kst_0, kst_1, kstL_0, kstL_1, addk_I, pA_0, pA_s, pD_0, pD_s, wid_nil, wid_cons, rcv_c, putv_I, putv_L, List.length_cons, List.length_nil, List.set_cons_zero, List.set_cons_succ, not_false_eq_true, Nat.reduceMod, Nat.reduceDiv, Nat.reduceEqDiff, Nat.reduceLT, Nat.reduceLeDiff, Nat.reduceAdd, Nat.reduceSub, reduceIte, Nat.lt_irrefl, Nat.zero_ne_one, Nat.one_ne_zero, Nat.zero_add, List.nil_append, List.cons_append, Option.toList_some, Option.toList_none, forall_const, false_implies, true_implies, false_or, or_false, true_or, or_true, i_le, i_lt, i_eq, i_eq0, i_lt0, i_0le, i_0lt, i_le0, i_in1, i_cl, nI_add, pk_mul, pk_sub, i_div, i_rem, i_sh1, i_bit, i_or, i_and, i_andn, nt_le, nf_le, nt_lt, nf_lt, nt_eq, nf_eq, not_true_eq_false, and_self, and_false, false_and, eq_self, Bool.toNat_true, Bool.toNat_false, i_bool, i_bool1, Bool.false_eq_true, Bool.true_eq_false, reduceCtorEq, i_neg1, i_neg2, i_neg3, i_neg4, i_neg5, i_neg6, i_neg7, i_neg8, i_neg9, i_nega, i_negb, i_negc, i_max2, i_min2, (m_n hm)]
    cases hb : boF (mayF Y t code) (fun i => E (code + (if t = true then 3 ^ i else 2 * 3 ^ i))) t (Y 6 0) with
    | none =>
      rw [hb] at q
      have q : P (some (aI (nI (E code)))) S := q
      try simp (disch := omega) only [no0, no1, nz1, nz2, nz3, nz4, nz5, nz7, nz8, Classical.not_not, bz0, bz1, wi_nil, ld_0, ld_s, isIv_I, isLv_L, isRv_R, true_and, and_true, lset_0, lset_1, lset_s, avw_I, avw_L, avw_R, clr_cons, clr_nil, kst_0, kst_1, kstL_0, kstL_1, addk_I, pA_0, pA_s, pD_0, pD_s, wid_nil, wid_cons, rcv_c, putv_I, putv_L, List.length_cons, List.length_nil, List.set_cons_zero, List.set_cons_succ, not_false_eq_true, Nat.reduceMod, Nat.reduceDiv, Nat.reduceEqDiff, Nat.reduceLT, Nat.reduceLeDiff, Nat.reduceAdd, Nat.reduceSub, reduceIte, Nat.lt_irrefl, Nat.zero_ne_one, Nat.one_ne_zero, Nat.zero_add, List.nil_append, List.cons_append, Option.toList_some, Option.toList_none, forall_const, false_implies, true_implies, false_or, or_false, true_or, or_true, i_le, i_lt, i_eq, i_eq0, i_lt0, i_0le, i_0lt, i_le0, i_in1, i_cl, nI_add, pk_mul, pk_sub, i_div, i_rem, i_sh1, i_bit, i_or, i_and, i_andn, nt_le, nf_le, nt_lt, nf_lt, nt_eq, nf_eq, not_true_eq_false, and_self, and_false, false_and, eq_self, Bool.toNat_true, Bool.toNat_false, i_bool, i_bool1, Bool.false_eq_true, Bool.true_eq_false, reduceCtorEq, i_neg1, i_neg2, i_neg3, i_neg4, i_neg5, i_neg6, i_neg7, i_neg8, i_neg9, i_nega, i_negb, i_negc, i_max2, i_min2, wrI, hEc.1, wi_nil]
      repeat (
        first
        | refine s_X9_turned_0 ?_
        | refine s_X9_turned_6 ?_
        | refine s_X9_turned_24 ?_
        | refine s_X9_turned_27 ?_
        | refine s_X9_turned_55 ?_
        | refine s_X9_turned_72 ?_
        | refine s_X9_turned_77 ?_
        | refine s_X9_turned_81 ?_
        | refine s_X9_turned_82 ?_
        | refine s_X9_turned_103 ?_
        | refine s_X9_turned_107 ?_
        | refine s_X9_turned_112 ?_
        | refine s_X9_turned_113 ?_
        | refine s_X9_turned_141 ?_
        | refine s_X9_turned_148 ?_
        | refine s_X9_turned_152 ?_
        | refine s_X9_turned_153 ?_
        | refine s_X9_turned_165 ?_
        | refine s_X9_turned_167 ?_
        | refine s_X9_turned_181 ?_
        | refine s_X9_turned_197 ?_
        | refine s_X9_turned_199 ?_
        simp (disch := omega) only [B_X9_turned_0, wi_aload_n, wi_iload_n, wi_iconst, wi_invokevirtual, cnt_8, B_X9_turned_6, wi_istore_n, wi_getfield, fldv_8_20, fds_8_20, wi_iaload, cnt_40, aTy_40, aLn_40, arr_40, cnt_49, aTy_49, aLn_49, arr_49, B_X9_turned_24, B_X9_turned_27, wi_isub, wi_istore, wi_bipush, B_X9_turned_40, wi_iload, fldv_8_10, fds_8_10, wi_icmp_ge, wi_invokestatic, B_X9_turned_55, wi_if_eq, wi_if_ne, B_X9_turned_72, wi_icmp_gt, B_X9_turned_77, wi_goto, B_X9_turned_81, B_X9_turned_82, fldv_8_34, fds_8_34, B_X9_turned_103, wi_imul, B_X9_turned_107, wi_iadd, B_X9_turned_112, B_X9_turned_113, wi_icmp_eq, B_X9_turned_141, wi_icmp_le, B_X9_turned_148, B_X9_turned_152, B_X9_turned_153, B_X9_turned_165, B_X9_turned_167, wi_iinc, B_X9_turned_181, wi_icmp_ne, B_X9_turned_197, B_X9_turned_199, wi_ireturn, no0, no1, nz1, nz2, nz3, nz4, nz5, nz7, nz8, Classical.not_not, bz0, bz1, wi_nil, ld_0, ld_s, isIv_I, isLv_L, isRv_R, true_and, and_true, lset_0, lset_1, lset_s, avw_I, avw_L, avw_R, clr_cons, clr_nil, kst_0, kst_1, kstL_0, kstL_1, addk_I, pA_0, pA_s, pD_0, pD_s, wid_nil, wid_cons, rcv_c, putv_I, putv_L, List.length_cons, List.length_nil, List.set_cons_zero, List.set_cons_succ, not_false_eq_true, Nat.reduceMod, Nat.reduceDiv, Nat.reduceEqDiff, Nat.reduceLT, Nat.reduceLeDiff, Nat.reduceAdd, Nat.reduceSub, reduceIte, Nat.lt_irrefl, Nat.zero_ne_one, Nat.one_ne_zero, Nat.zero_add, List.nil_append, List.cons_append, Option.toList_some, Option.toList_none, forall_const, false_implies, true_implies, false_or, or_false, true_or, or_true, i_le, i_lt, i_eq, i_eq0, i_lt0, i_0le, i_0lt, i_le0, i_in1, i_cl, nI_add, pk_mul, pk_sub, i_div, i_rem, i_sh1, i_bit, i_or, i_and, i_andn, nt_le, nf_le, nt_lt, nf_lt, nt_eq, nf_eq, not_true_eq_false, and_self, and_false, false_and, eq_self, Bool.toNat_true, Bool.toNat_false, i_bool, i_bool1, Bool.false_eq_true, Bool.true_eq_false, reduceCtorEq, i_neg1, i_neg2, i_neg3, i_neg4, i_neg5, i_neg6, i_neg7, i_neg8, i_neg9, i_nega, i_negb, i_negc, i_max2, i_min2, wrI, hEc.1])
      exact q
    | some b =>
      rw [hb] at q
      have q : P (some (aI (nI b))) S := q
      have hb5 : b ≤ 100 := by
        refine bo_le (M := 100) (fun i hi => ?_) hb
        unfold mayF at hi
        have hbi := (Bool.and_eq_true_iff.mp hi).1
        have hin : i < Y 6 0 := by
          rcases Nat.lt_or_ge i (Y 6 0) with a | a
          · exact a
          · rw [Nat.testBit_lt_two_pow (Nat.lt_of_lt_of_le hL (Nat.pow_le_pow_right (by decide) a))] at hbi; cases hbi
        obtain ⟨s1, s2, s3, s4, s5, s6⟩ := sO_step (by omega) (by omega) (by omega) hin hc hbi
        refine (hE _ ?_).2
        split <;> omega
      try simp (disch := omega) only [no0, no1, nz1, nz2, nz3, nz4, nz5, nz7, nz8, Classical.not_not, bz0, bz1, wi_nil, ld_0, ld_s, isIv_I, isLv_L, isRv_R, true_and, and_true, lset_0, lset_1, lset_s, avw_I, avw_L, avw_R, clr_cons, clr_nil, kst_0, kst_1, kstL_0, kstL_1, addk_I, pA_0, pA_s, pD_0, pD_s, wid_nil, wid_cons, rcv_c, putv_I, putv_L, List.length_cons, List.length_nil, List.set_cons_zero, List.set_cons_succ, not_false_eq_true, Nat.reduceMod, Nat.reduceDiv, Nat.reduceEqDiff, Nat.reduceLT, Nat.reduceLeDiff, Nat.reduceAdd, Nat.reduceSub, reduceIte, Nat.lt_irrefl, Nat.zero_ne_one, Nat.one_ne_zero, Nat.zero_add, List.nil_append, List.cons_append, Option.toList_some, Option.toList_none, forall_const, false_implies, true_implies, false_or, or_false, true_or, or_true, i_le, i_lt, i_eq, i_eq0, i_lt0, i_0le, i_0lt, i_le0, i_in1, i_cl, nI_add, pk_mul, pk_sub, i_div, i_rem, i_sh1, i_bit, i_or, i_and, i_andn, nt_le, nf_le, nt_lt, nf_lt, nt_eq, nf_eq, not_true_eq_false, and_self, and_false, false_and, eq_self, Bool.toNat_true, Bool.toNat_false, i_bool, i_bool1, Bool.false_eq_true, Bool.true_eq_false, reduceCtorEq, i_neg1, i_neg2, i_neg3, i_neg4, i_neg5, i_neg6, i_neg7, i_neg8, i_neg9, i_nega, i_negb, i_negc, i_max2, i_min2, wrI, wi_nil]
      repeat (
        first
        | refine s_X9_turned_0 ?_
        | refine s_X9_turned_6 ?_
        | refine s_X9_turned_24 ?_
        | refine s_X9_turned_27 ?_
        | refine s_X9_turned_55 ?_
        | refine s_X9_turned_72 ?_
        | refine s_X9_turned_77 ?_
        | refine s_X9_turned_81 ?_
        | refine s_X9_turned_82 ?_
        | refine s_X9_turned_103 ?_
        | refine s_X9_turned_107 ?_
        | refine s_X9_turned_112 ?_
        | refine s_X9_turned_113 ?_
        | refine s_X9_turned_141 ?_
        | refine s_X9_turned_148 ?_
        | refine s_X9_turned_152 ?_
        | refine s_X9_turned_153 ?_
        | refine s_X9_turned_165 ?_
        | refine s_X9_turned_167 ?_
        | refine s_X9_turned_181 ?_
        | refine s_X9_turned_197 ?_
        | refine s_X9_turned_199 ?_
        simp (disch := omega) only [B_X9_turned_0, wi_aload_n, wi_iload_n, wi_iconst, wi_invokevirtual, cnt_8, B_X9_turned_6, wi_istore_n, wi_getfield, fldv_8_20, fds_8_20, wi_iaload, cnt_40, aTy_40, aLn_40, arr_40, cnt_49, aTy_49, aLn_49, arr_49, B_X9_turned_24, B_X9_turned_27, wi_isub, wi_istore, wi_bipush, B_X9_turned_40, wi_iload, fldv_8_10, fds_8_10, wi_icmp_ge, wi_invokestatic, B_X9_turned_55, wi_if_eq, wi_if_ne, B_X9_turned_72, wi_icmp_gt, B_X9_turned_77, wi_goto, B_X9_turned_81, B_X9_turned_82, fldv_8_34, fds_8_34, B_X9_turned_103, wi_imul, B_X9_turned_107, wi_iadd, B_X9_turned_112, B_X9_turned_113, wi_icmp_eq, B_X9_turned_141, wi_icmp_le, B_X9_turned_148, B_X9_turned_152, B_X9_turned_153, B_X9_turned_165, B_X9_turned_167, wi_iinc, B_X9_turned_181, wi_icmp_ne, B_X9_turned_197, B_X9_turned_199, wi_ireturn, no0, no1, nz1, nz2, nz3, nz4, nz5, nz7, nz8, Classical.not_not, bz0, bz1, wi_nil, ld_0, ld_s, isIv_I, isLv_L, isRv_R, true_and, and_true, lset_0, lset_1, lset_s, avw_I, avw_L, avw_R, clr_cons, clr_nil, kst_0, kst_1, kstL_0, kstL_1, addk_I, pA_0, pA_s, pD_0, pD_s, wid_nil, wid_cons, rcv_c, putv_I, putv_L, List.length_cons, List.length_nil, List.set_cons_zero, List.set_cons_succ, not_false_eq_true, Nat.reduceMod, Nat.reduceDiv, Nat.reduceEqDiff, Nat.reduceLT, Nat.reduceLeDiff, Nat.reduceAdd, Nat.reduceSub, reduceIte, Nat.lt_irrefl, Nat.zero_ne_one, Nat.one_ne_zero, Nat.zero_add, List.nil_append, List.cons_append, Option.toList_some, Option.toList_none, forall_const, false_implies, true_implies, false_or, or_false, true_or, or_true, i_le, i_lt, i_eq, i_eq0, i_lt0, i_0le, i_0lt, i_le0, i_in1, i_cl, nI_add, pk_mul, pk_sub, i_div, i_rem, i_sh1, i_bit, i_or, i_and, i_andn, nt_le, nf_le, nt_lt, nf_lt, nt_eq, nf_eq, not_true_eq_false, and_self, and_false, false_and, eq_self, Bool.toNat_true, Bool.toNat_false, i_bool, i_bool1, Bool.false_eq_true, Bool.true_eq_false, reduceCtorEq, i_neg1, i_neg2, i_neg3, i_neg4, i_neg5, i_neg6, i_neg7, i_neg8, i_neg9, i_nega, i_negb, i_negc, i_max2, i_min2, wrI])
      exact q
  | succ m ih =>
    intro i hi
    have hin : i < Y 6 0 := by omega
    have hnx := ih (i + 1) (by omega)
    have h3i : 3 ^ i ≤ 243 := p3_le (show i ≤ 5 by omega)
    have hyc := yc_le ho hin
    have ez : ycz Y i = yc Y i := by unfold ycz; rw [if_pos hin]
    rw [boF, Nat.pow_succ] at hnx
    have hGle : ∀ b, boF (mayF Y t code) (fun i => E (code + (if t = true then 3 ^ i else 2 * 3 ^ i))) t i = some b → b ≤ 100 := by
      intro b hb
      refine bo_le (M := 100) (fun i hi => ?_) hb
      unfold mayF at hi
      have hbi := (Bool.and_eq_true_iff.mp hi).1
      have hin : i < Y 6 0 := by
        rcases Nat.lt_or_ge i (Y 6 0) with a | a
        · exact a
        · rw [Nat.testBit_lt_two_pow (Nat.lt_of_lt_of_le hL (Nat.pow_le_pow_right (by decide) a))] at hbi; cases hbi
      obtain ⟨s1, s2, s3, s4, s5, s6⟩ := sO_step (by omega) (by omega) (by omega) hin hc hbi
      refine (hE _ ?_).2
      split <;> omega
    generalize hG : boF (mayF Y t code) (fun i => E (code + (if t = true then 3 ^ i else 2 * 3 ^ i))) t i = G at hnx hGle ⊢
    have no : mayF Y t code i = false → wpX (d + 4) mX9_turned 82 [aR 8 0, aI (nI code), aI (nI t.toNat), aI (nI (sO code 0 (Y 6 0))), aI (nI (Y 6 2) - nI (csum (ycz Y) 5 (sO code 2 (Y 6 0)))), aI (wrI G), aI (nI (3 ^ i)), aI (nI i), aU, aU, aU] [aI (nI 0)] S P := by
      intro h
      rw [h, if_neg (by decide)] at hnx
      try simp (disch := omega) only [no0, no1, nz1, nz2, nz3, nz4, nz5, nz7, nz8, Classical.not_not, bz0, bz1, wi_nil, ld_0, ld_s, isIv_I, isLv_L, isRv_R, true_and, and_true, lset_0, lset_1, lset_s, avw_I, avw_L, avw_R, clr_cons, clr_nil, kst_0, kst_1, kstL_0, kstL_1, addk_I, pA_0, pA_s, pD_0, pD_s, wid_nil, wid_cons, rcv_c, putv_I, putv_L, List.length_cons, List.length_nil, List.set_cons_zero, List.set_cons_succ, not_false_eq_true, Nat.reduceMod, Nat.reduceDiv, Nat.reduceEqDiff, Nat.reduceLT, Nat.reduceLeDiff, Nat.reduceAdd, Nat.reduceSub, reduceIte, Nat.lt_irrefl, Nat.zero_ne_one, Nat.one_ne_zero, Nat.zero_add, List.nil_append, List.cons_append, Option.toList_some, Option.toList_none, forall_const, false_implies, true_implies, false_or, or_false, true_or, or_true, i_le, i_lt, i_eq, i_eq0, i_lt0, i_0le, i_0lt, i_le0, i_in1, i_cl, nI_add, pk_mul, pk_sub, i_div, i_rem, i_sh1, i_bit, i_or, i_and, i_andn, nt_le, nf_le, nt_lt, nf_lt, nt_eq, nf_eq, not_true_eq_false, and_self, and_false, false_and, eq_self, Bool.toNat_true, Bool.toNat_false, i_bool, i_bool1, Bool.false_eq_true, Bool.true_eq_false, reduceCtorEq, i_neg1, i_neg2, i_neg3, i_neg4, i_neg5, i_neg6, i_neg7, i_neg8, i_neg9, i_nega, i_negb, i_negc, i_max2, i_min2, wi_nil]
      repeat (
        first
        | refine s_X9_turned_0 ?_
        | refine s_X9_turned_6 ?_
        | refine s_X9_turned_24 ?_
        | refine s_X9_turned_27 ?_
        | refine s_X9_turned_55 ?_
        | refine s_X9_turned_72 ?_
        | refine s_X9_turned_77 ?_
        | refine s_X9_turned_81 ?_
        | refine s_X9_turned_82 ?_
        | refine s_X9_turned_103 ?_
        | refine s_X9_turned_107 ?_
        | refine s_X9_turned_112 ?_
        | refine s_X9_turned_113 ?_
        | refine s_X9_turned_141 ?_
        | refine s_X9_turned_148 ?_
        | refine s_X9_turned_152 ?_
        | refine s_X9_turned_153 ?_
        | refine s_X9_turned_165 ?_
        | refine s_X9_turned_167 ?_
        | refine s_X9_turned_181 ?_
        | refine s_X9_turned_197 ?_
        | refine s_X9_turned_199 ?_
        simp (disch := omega) only [B_X9_turned_0, wi_aload_n, wi_iload_n, wi_iconst, wi_invokevirtual, cnt_8, B_X9_turned_6, wi_istore_n, wi_getfield, fldv_8_20, fds_8_20, wi_iaload, cnt_40, aTy_40, aLn_40, arr_40, cnt_49, aTy_49, aLn_49, arr_49, B_X9_turned_24, B_X9_turned_27, wi_isub, wi_istore, wi_bipush, B_X9_turned_40, wi_iload, fldv_8_10, fds_8_10, wi_icmp_ge, wi_invokestatic, B_X9_turned_55, wi_if_eq, wi_if_ne, B_X9_turned_72, wi_icmp_gt, B_X9_turned_77, wi_goto, B_X9_turned_81, B_X9_turned_82, fldv_8_34, fds_8_34, B_X9_turned_103, wi_imul, B_X9_turned_107, wi_iadd, B_X9_turned_112, B_X9_turned_113, wi_icmp_eq, B_X9_turned_141, wi_icmp_le, B_X9_turned_148, B_X9_turned_152, B_X9_turned_153, B_X9_turned_165, B_X9_turned_167, wi_iinc, B_X9_turned_181, wi_icmp_ne, B_X9_turned_197, B_X9_turned_199, wi_ireturn, no0, no1, nz1, nz2, nz3, nz4, nz5, nz7, nz8, Classical.not_not, bz0, bz1, wi_nil, ld_0, ld_s, isIv_I, isLv_L, isRv_R, true_and, and_true, lset_0, lset_1, lset_s, avw_I, avw_L, avw_R, clr_cons, clr_nil, kst_0, kst_1, kstL_0, kstL_1, addk_I, pA_0, pA_s, pD_0, pD_s, wid_nil, wid_cons, rcv_c, putv_I, putv_L, List.length_cons, List.length_nil, List.set_cons_zero, List.set_cons_succ, not_false_eq_true, Nat.reduceMod, Nat.reduceDiv, Nat.reduceEqDiff, Nat.reduceLT, Nat.reduceLeDiff, Nat.reduceAdd, Nat.reduceSub, reduceIte, Nat.lt_irrefl, Nat.zero_ne_one, Nat.one_ne_zero, Nat.zero_add, List.nil_append, List.cons_append, Option.toList_some, Option.toList_none, forall_const, false_implies, true_implies, false_or, or_false, true_or, or_true, i_le, i_lt, i_eq, i_eq0, i_lt0, i_0le, i_0lt, i_le0, i_in1, i_cl, nI_add, pk_mul, pk_sub, i_div, i_rem, i_sh1, i_bit, i_or, i_and, i_andn, nt_le, nf_le, nt_lt, nf_lt, nt_eq, nf_eq, not_true_eq_false, and_self, and_false, false_and, eq_self, Bool.toNat_true, Bool.toNat_false, i_bool, i_bool1, Bool.false_eq_true, Bool.true_eq_false, reduceCtorEq, i_neg1, i_neg2, i_neg3, i_neg4, i_neg5, i_neg6, i_neg7, i_neg8, i_neg9, i_nega, i_negb, i_negc, i_max2, i_min2])
      exact hnx
    have yes : mayF Y t code i = true → wpX (d + 4) mX9_turned 82 [aR 8 0, aI (nI code), aI (nI t.toNat), aI (nI (sO code 0 (Y 6 0))), aI (nI (Y 6 2) - nI (csum (ycz Y) 5 (sO code 2 (Y 6 0)))), aI (wrI G), aI (nI (3 ^ i)), aI (nI i), aU, aU, aU] [aI (nI 1)] S P := by
      intro h
      rw [h, if_pos rfl] at hnx
      unfold mayF at h
      obtain ⟨s1, s2, s3, s4, s5, s6⟩ := sO_step (by omega) (by omega) (by omega) hin hc (Bool.and_eq_true_iff.mp h).1
      cases t
      · rw [if_neg (by decide)] at hnx
        obtain ⟨x1, x2⟩ := hE (code + 2 * 3 ^ i) s5
        cases hGc : G with
        | none =>
          rw [hGc] at hnx
          try simp (disch := omega) only [no0, no1, nz1, nz2, nz3, nz4, nz5, nz7, nz8, Classical.not_not, bz0, bz1, wi_nil, ld_0, ld_s, isIv_I, isLv_L, isRv_R, true_and, and_true, lset_0, lset_1, lset_s, avw_I, avw_L, avw_R, clr_cons, clr_nil, kst_0, kst_1, kstL_0, kstL_1, addk_I, pA_0, pA_s, pD_0, pD_s, wid_nil, wid_cons, rcv_c, putv_I, putv_L, List.length_cons, List.length_nil, List.set_cons_zero, List.set_cons_succ, not_false_eq_true, Nat.reduceMod, Nat.reduceDiv, Nat.reduceEqDiff, Nat.reduceLT, Nat.reduceLeDiff, Nat.reduceAdd, Nat.reduceSub, reduceIte, Nat.lt_irrefl, Nat.zero_ne_one, Nat.one_ne_zero, Nat.zero_add, List.nil_append, List.cons_append, Option.toList_some, Option.toList_none, forall_const, false_implies, true_implies, false_or, or_false, true_or, or_true, i_le, i_lt, i_eq, i_eq0, i_lt0, i_0le, i_0lt, i_le0, i_in1, i_cl, nI_add, pk_mul, pk_sub, i_div, i_rem, i_sh1, i_bit, i_or, i_and, i_andn, nt_le, nf_le, nt_lt, nf_lt, nt_eq, nf_eq, not_true_eq_false, and_self, and_false, false_and, eq_self, Bool.toNat_true, Bool.toNat_false, i_bool, i_bool1, Bool.false_eq_true, Bool.true_eq_false, reduceCtorEq, i_neg1, i_neg2, i_neg3, i_neg4, i_neg5, i_neg6, i_neg7, i_neg8, i_neg9, i_nega, i_negb, i_negc, i_max2, i_min2, x1, wrI, wi_nil]
          repeat (
            first
            | refine s_X9_turned_0 ?_
            | refine s_X9_turned_6 ?_
            | refine s_X9_turned_24 ?_
            | refine s_X9_turned_27 ?_
            | refine s_X9_turned_55 ?_
            | refine s_X9_turned_72 ?_
            | refine s_X9_turned_77 ?_
            | refine s_X9_turned_81 ?_
            | refine s_X9_turned_82 ?_
            | refine s_X9_turned_103 ?_
            | refine s_X9_turned_107 ?_
            | refine s_X9_turned_112 ?_
            | refine s_X9_turned_113 ?_
            | refine s_X9_turned_141 ?_
            | refine s_X9_turned_148 ?_
            | refine s_X9_turned_152 ?_
            | refine s_X9_turned_153 ?_
            | refine s_X9_turned_165 ?_
            | refine s_X9_turned_167 ?_
            | refine s_X9_turned_181 ?_
            | refine s_X9_turned_197 ?_
            | refine s_X9_turned_199 ?_
            simp (disch := omega) only [B_X9_turned_0, wi_aload_n, wi_iload_n, wi_iconst, wi_invokevirtual, cnt_8, B_X9_turned_6, wi_istore_n, wi_getfield, fldv_8_20, fds_8_20, wi_iaload, cnt_40, aTy_40, aLn_40, arr_40, cnt_49, aTy_49, aLn_49, arr_49, B_X9_turned_24, B_X9_turned_27, wi_isub, wi_istore, wi_bipush, B_X9_turned_40, wi_iload, fldv_8_10, fds_8_10, wi_icmp_ge, wi_invokestatic, B_X9_turned_55, wi_if_eq, wi_if_ne, B_X9_turned_72, wi_icmp_gt, B_X9_turned_77, wi_goto, B_X9_turned_81, B_X9_turned_82, fldv_8_34, fds_8_34, B_X9_turned_103, wi_imul, B_X9_turned_107, wi_iadd, B_X9_turned_112, B_X9_turned_113, wi_icmp_eq, B_X9_turned_141, wi_icmp_le, B_X9_turned_148, B_X9_turned_152, B_X9_turned_153, B_X9_turned_165, B_X9_turned_167, wi_iinc, B_X9_turned_181, wi_icmp_ne, B_X9_turned_197, B_X9_turned_199, wi_ireturn, no0, no1, nz1, nz2, nz3, nz4, nz5, nz7, nz8, Classical.not_not, bz0, bz1, wi_nil, ld_0, ld_s, isIv_I, isLv_L, isRv_R, true_and, and_true, lset_0, lset_1, lset_s, avw_I, avw_L, avw_R, clr_cons, clr_nil, kst_0, kst_1, kstL_0, kstL_1, addk_I, pA_0, pA_s, pD_0, pD_s, wid_nil, wid_cons, rcv_c, putv_I, putv_L, List.length_cons, List.length_nil, List.set_cons_zero, List.set_cons_succ, not_false_eq_true, Nat.reduceMod, Nat.reduceDiv, Nat.reduceEqDiff, Nat.reduceLT, Nat.reduceLeDiff, Nat.reduceAdd, Nat.reduceSub, reduceIte, Nat.lt_irrefl, Nat.zero_ne_one, Nat.one_ne_zero, Nat.zero_add, List.nil_append, List.cons_append, Option.toList_some, Option.toList_none, forall_const, false_implies, true_implies, false_or, or_false, true_or, or_true, i_le, i_lt, i_eq, i_eq0, i_lt0, i_0le, i_0lt, i_le0, i_in1, i_cl, nI_add, pk_mul, pk_sub, i_div, i_rem, i_sh1, i_bit, i_or, i_and, i_andn, nt_le, nf_le, nt_lt, nf_lt, nt_eq, nf_eq, not_true_eq_false, and_self, and_false, false_and, eq_self, Bool.toNat_true, Bool.toNat_false, i_bool, i_bool1, Bool.false_eq_true, Bool.true_eq_false, reduceCtorEq, i_neg1, i_neg2, i_neg3, i_neg4, i_neg5, i_neg6, i_neg7, i_neg8, i_neg9, i_nega, i_negb, i_negc, i_max2, i_min2, x1, wrI])
          exact hnx
        | some b =>
          have hb := hGle b hGc
          rw [hGc] at hnx
          try dsimp only at hnx
          rw [if_neg (by decide)] at hnx
          rcases Nat.lt_or_ge b (E (code + 2 * 3 ^ i)) with c | c
          · rw [Nat.max_eq_right (by omega)] at hnx
            try simp (disch := omega) only [no0, no1, nz1, nz2, nz3, nz4, nz5, nz7, nz8, Classical.not_not, bz0, bz1, wi_nil, ld_0, ld_s, isIv_I, isLv_L, isRv_R, true_and, and_true, lset_0, lset_1, lset_s, avw_I, avw_L, avw_R, clr_cons, clr_nil, kst_0, kst_1, kstL_0, kstL_1, addk_I, pA_0, pA_s, pD_0, pD_s, wid_nil, wid_cons, rcv_c, putv_I, putv_L, List.length_cons, List.length_nil, List.set_cons_zero, List.set_cons_succ, not_false_eq_true, Nat.reduceMod, Nat.reduceDiv, Nat.reduceEqDiff, Nat.reduceLT, Nat.reduceLeDiff, Nat.reduceAdd, Nat.reduceSub, reduceIte, Nat.lt_irrefl, Nat.zero_ne_one, Nat.one_ne_zero, Nat.zero_add, List.nil_append, List.cons_append, Option.toList_some, Option.toList_none, forall_const, false_implies, true_implies, false_or, or_false, true_or, or_true, i_le, i_lt, i_eq, i_eq0, i_lt0, i_0le, i_0lt, i_le0, i_in1, i_cl, nI_add, pk_mul, pk_sub, i_div, i_rem, i_sh1, i_bit, i_or, i_and, i_andn, nt_le, nf_le, nt_lt, nf_lt, nt_eq, nf_eq, not_true_eq_false, and_self, and_false, false_and, eq_self, Bool.toNat_true, Bool.toNat_false, i_bool, i_bool1, Bool.false_eq_true, Bool.true_eq_false, reduceCtorEq, i_neg1, i_neg2, i_neg3, i_neg4, i_neg5, i_neg6, i_neg7, i_neg8, i_neg9, i_nega, i_negb, i_negc, i_max2, i_min2, x1, wrI, wi_nil]
            repeat (
              first
              | refine s_X9_turned_0 ?_
              | refine s_X9_turned_6 ?_
              | refine s_X9_turned_24 ?_
              | refine s_X9_turned_27 ?_
              | refine s_X9_turned_55 ?_
              | refine s_X9_turned_72 ?_
              | refine s_X9_turned_77 ?_
              | refine s_X9_turned_81 ?_
              | refine s_X9_turned_82 ?_
              | refine s_X9_turned_103 ?_
              | refine s_X9_turned_107 ?_
              | refine s_X9_turned_112 ?_
              | refine s_X9_turned_113 ?_
              | refine s_X9_turned_141 ?_
              | refine s_X9_turned_148 ?_
              | refine s_X9_turned_152 ?_
              | refine s_X9_turned_153 ?_
              | refine s_X9_turned_165 ?_
              | refine s_X9_turned_167 ?_
              | refine s_X9_turned_181 ?_
              | refine s_X9_turned_197 ?_
              | refine s_X9_turned_199 ?_
              simp (disch := omega) only [B_X9_turned_0, wi_aload_n, wi_iload_n, wi_iconst, wi_invokevirtual, cnt_8, B_X9_turned_6, wi_istore_n, wi_getfield, fldv_8_20, fds_8_20, wi_iaload, cnt_40, aTy_40, aLn_40, arr_40, cnt_49, aTy_49, aLn_49, arr_49, B_X9_turned_24, B_X9_turned_27, wi_isub, wi_istore, wi_bipush, B_X9_turned_40, wi_iload, fldv_8_10, fds_8_10, wi_icmp_ge, wi_invokestatic, B_X9_turned_55, wi_if_eq, wi_if_ne, B_X9_turned_72, wi_icmp_gt, B_X9_turned_77, wi_goto, B_X9_turned_81, B_X9_turned_82, fldv_8_34, fds_8_34, B_X9_turned_103, wi_imul, B_X9_turned_107, wi_iadd, B_X9_turned_112, B_X9_turned_113, wi_icmp_eq, B_X9_turned_141, wi_icmp_le, B_X9_turned_148, B_X9_turned_152, B_X9_turned_153, B_X9_turned_165, B_X9_turned_167, wi_iinc, B_X9_turned_181, wi_icmp_ne, B_X9_turned_197, B_X9_turned_199, wi_ireturn, no0, no1, nz1, nz2, nz3, nz4, nz5, nz7, nz8, Classical.not_not, bz0, bz1, wi_nil, ld_0, ld_s, isIv_I, isLv_L, isRv_R, true_and, and_true, lset_0, lset_1, lset_s, avw_I, avw_L, avw_R, clr_cons, clr_nil, kst_0, kst_1, kstL_0, kstL_1, addk_I, pA_0, pA_s, pD_0, pD_s, wid_nil, wid_cons, rcv_c, putv_I, putv_L, List.length_cons, List.length_nil, List.set_cons_zero, List.set_cons_succ, not_false_eq_true, Nat.reduceMod, Nat.reduceDiv, Nat.reduceEqDiff, Nat.reduceLT, Nat.reduceLeDiff, Nat.reduceAdd, Nat.reduceSub, reduceIte, Nat.lt_irrefl, Nat.zero_ne_one, Nat.one_ne_zero, Nat.zero_add, List.nil_append, List.cons_append, Option.toList_some, Option.toList_none, forall_const, false_implies, true_implies, false_or, or_false, true_or, or_true, i_le, i_lt, i_eq, i_eq0, i_lt0, i_0le, i_0lt, i_le0, i_in1, i_cl, nI_add, pk_mul, pk_sub, i_div, i_rem, i_sh1, i_bit, i_or, i_and, i_andn, nt_le, nf_le, nt_lt, nf_lt, nt_eq, nf_eq, not_true_eq_false, and_self, and_false, false_and, eq_self, Bool.toNat_true, Bool.toNat_false, i_bool, i_bool1, Bool.false_eq_true, Bool.true_eq_false, reduceCtorEq, i_neg1, i_neg2, i_neg3, i_neg4, i_neg5, i_neg6, i_neg7, i_neg8, i_neg9, i_nega, i_negb, i_negc, i_max2, i_min2, x1, wrI])
            exact hnx
          · rw [Nat.max_eq_left c] at hnx
            try simp (disch := omega) only [no0, no1, nz1, nz2, nz3, nz4, nz5, nz7, nz8, Classical.not_not, bz0, bz1, wi_nil, ld_0, ld_s, isIv_I, isLv_L, isRv_R, true_and, and_true, lset_0, lset_1, lset_s, avw_I, avw_L, avw_R, clr_cons, clr_nil, kst_0, kst_1, kstL_0, kstL_1, addk_I, pA_0, pA_s, pD_0, pD_s, wid_nil, wid_cons, rcv_c, putv_I, putv_L, List.length_cons, List.length_nil, List.set_cons_zero, List.set_cons_succ, not_false_eq_true, Nat.reduceMod, Nat.reduceDiv, Nat.reduceEqDiff, Nat.reduceLT, Nat.reduceLeDiff, Nat.reduceAdd, Nat.reduceSub, reduceIte, Nat.lt_irrefl, Nat.zero_ne_one, Nat.one_ne_zero, Nat.zero_add, List.nil_append, List.cons_append, Option.toList_some, Option.toList_none, forall_const, false_implies, true_implies, false_or, or_false, true_or, or_true, i_le, i_lt, i_eq, i_eq0, i_lt0, i_0le, i_0lt, i_le0, i_in1, i_cl, nI_add, pk_mul, pk_sub, i_div, i_rem, i_sh1, i_bit, i_or, i_and, i_andn, nt_le, nf_le, nt_lt, nf_lt, nt_eq, nf_eq, not_true_eq_false, and_self, and_false, false_and, eq_self, Bool.toNat_true, Bool.toNat_false, i_bool, i_bool1, Bool.false_eq_true, Bool.true_eq_false, reduceCtorEq, i_neg1, i_neg2, i_neg3, i_neg4, i_neg5, i_neg6, i_neg7, i_neg8, i_neg9, i_nega, i_negb, i_negc, i_max2, i_min2, x1, wrI, wi_nil]
            repeat (
              first
              | refine s_X9_turned_0 ?_
              | refine s_X9_turned_6 ?_
              | refine s_X9_turned_24 ?_
              | refine s_X9_turned_27 ?_
              | refine s_X9_turned_55 ?_
              | refine s_X9_turned_72 ?_
              | refine s_X9_turned_77 ?_
              | refine s_X9_turned_81 ?_
              | refine s_X9_turned_82 ?_
              | refine s_X9_turned_103 ?_
              | refine s_X9_turned_107 ?_
              | refine s_X9_turned_112 ?_
              | refine s_X9_turned_113 ?_
              | refine s_X9_turned_141 ?_
              | refine s_X9_turned_148 ?_
              | refine s_X9_turned_152 ?_
              | refine s_X9_turned_153 ?_
              | refine s_X9_turned_165 ?_
              | refine s_X9_turned_167 ?_
              | refine s_X9_turned_181 ?_
              | refine s_X9_turned_197 ?_
              | refine s_X9_turned_199 ?_
              simp (disch := omega) only [B_X9_turned_0, wi_aload_n, wi_iload_n, wi_iconst, wi_invokevirtual, cnt_8, B_X9_turned_6, wi_istore_n, wi_getfield, fldv_8_20, fds_8_20, wi_iaload, cnt_40, aTy_40, aLn_40, arr_40, cnt_49, aTy_49, aLn_49, arr_49, B_X9_turned_24, B_X9_turned_27, wi_isub, wi_istore, wi_bipush, B_X9_turned_40, wi_iload, fldv_8_10, fds_8_10, wi_icmp_ge, wi_invokestatic, B_X9_turned_55, wi_if_eq, wi_if_ne, B_X9_turned_72, wi_icmp_gt, B_X9_turned_77, wi_goto, B_X9_turned_81, B_X9_turned_82, fldv_8_34, fds_8_34, B_X9_turned_103, wi_imul, B_X9_turned_107, wi_iadd, B_X9_turned_112, B_X9_turned_113, wi_icmp_eq, B_X9_turned_141, wi_icmp_le, B_X9_turned_148, B_X9_turned_152, B_X9_turned_153, B_X9_turned_165, B_X9_turned_167, wi_iinc, B_X9_turned_181, wi_icmp_ne, B_X9_turned_197, B_X9_turned_199, wi_ireturn, no0, no1, nz1, nz2, nz3, nz4, nz5, nz7, nz8, Classical.not_not, bz0, bz1, wi_nil, ld_0, ld_s, isIv_I, isLv_L, isRv_R, true_and, and_true, lset_0, lset_1, lset_s, avw_I, avw_L, avw_R, clr_cons, clr_nil, kst_0, kst_1, kstL_0, kstL_1, addk_I, pA_0, pA_s, pD_0, pD_s, wid_nil, wid_cons, rcv_c, putv_I, putv_L, List.length_cons, List.length_nil, List.set_cons_zero, List.set_cons_succ, not_false_eq_true, Nat.reduceMod, Nat.reduceDiv, Nat.reduceEqDiff, Nat.reduceLT, Nat.reduceLeDiff, Nat.reduceAdd, Nat.reduceSub, reduceIte, Nat.lt_irrefl, Nat.zero_ne_one, Nat.one_ne_zero, Nat.zero_add, List.nil_append, List.cons_append, Option.toList_some, Option.toList_none, forall_const, false_implies, true_implies, false_or, or_false, true_or, or_true, i_le, i_lt, i_eq, i_eq0, i_lt0, i_0le, i_0lt, i_le0, i_in1, i_cl, nI_add, pk_mul, pk_sub, i_div, i_rem, i_sh1, i_bit, i_or, i_and, i_andn, nt_le, nf_le, nt_lt, nf_lt, nt_eq, nf_eq, not_true_eq_false, and_self, and_false, false_and, eq_self, Bool.toNat_true, Bool.toNat_false, i_bool, i_bool1, Bool.false_eq_true, Bool.true_eq_false, reduceCtorEq, i_neg1, i_neg2, i_neg3, i_neg4, i_neg5, i_neg6, i_neg7, i_neg8, i_neg9, i_nega, i_negb, i_negc, i_max2, i_min2, x1, wrI])
            exact hnx
      · rw [if_pos rfl] at hnx
        obtain ⟨x1, x2⟩ := hE (code + 3 ^ i) (by omega)
        cases hGc : G with
        | none =>
          rw [hGc] at hnx
          try simp (disch := omega) only [no0, no1, nz1, nz2, nz3, nz4, nz5, nz7, nz8, Classical.not_not, bz0, bz1, wi_nil, ld_0, ld_s, isIv_I, isLv_L, isRv_R, true_and, and_true, lset_0, lset_1, lset_s, avw_I, avw_L, avw_R, clr_cons, clr_nil, kst_0, kst_1, kstL_0, kstL_1, addk_I, pA_0, pA_s, pD_0, pD_s, wid_nil, wid_cons, rcv_c, putv_I, putv_L, List.length_cons, List.length_nil, List.set_cons_zero, List.set_cons_succ, not_false_eq_true, Nat.reduceMod, Nat.reduceDiv, Nat.reduceEqDiff, Nat.reduceLT, Nat.reduceLeDiff, Nat.reduceAdd, Nat.reduceSub, reduceIte, Nat.lt_irrefl, Nat.zero_ne_one, Nat.one_ne_zero, Nat.zero_add, List.nil_append, List.cons_append, Option.toList_some, Option.toList_none, forall_const, false_implies, true_implies, false_or, or_false, true_or, or_true, i_le, i_lt, i_eq, i_eq0, i_lt0, i_0le, i_0lt, i_le0, i_in1, i_cl, nI_add, pk_mul, pk_sub, i_div, i_rem, i_sh1, i_bit, i_or, i_and, i_andn, nt_le, nf_le, nt_lt, nf_lt, nt_eq, nf_eq, not_true_eq_false, and_self, and_false, false_and, eq_self, Bool.toNat_true, Bool.toNat_false, i_bool, i_bool1, Bool.false_eq_true, Bool.true_eq_false, reduceCtorEq, i_neg1, i_neg2, i_neg3, i_neg4, i_neg5, i_neg6, i_neg7, i_neg8, i_neg9, i_nega, i_negb, i_negc, i_max2, i_min2, x1, wrI, wi_nil]
          repeat (
            first
            | refine s_X9_turned_0 ?_
            | refine s_X9_turned_6 ?_
            | refine s_X9_turned_24 ?_
            | refine s_X9_turned_27 ?_
            | refine s_X9_turned_55 ?_
            | refine s_X9_turned_72 ?_
            | refine s_X9_turned_77 ?_
            | refine s_X9_turned_81 ?_
            | refine s_X9_turned_82 ?_
            | refine s_X9_turned_103 ?_
            | refine s_X9_turned_107 ?_
            | refine s_X9_turned_112 ?_
            | refine s_X9_turned_113 ?_
            | refine s_X9_turned_141 ?_
            | refine s_X9_turned_148 ?_
            | refine s_X9_turned_152 ?_
            | refine s_X9_turned_153 ?_
            | refine s_X9_turned_165 ?_
            | refine s_X9_turned_167 ?_
            | refine s_X9_turned_181 ?_
            | refine s_X9_turned_197 ?_
            | refine s_X9_turned_199 ?_
            simp (disch := omega) only [B_X9_turned_0, wi_aload_n, wi_iload_n, wi_iconst, wi_invokevirtual, cnt_8, B_X9_turned_6, wi_istore_n, wi_getfield, fldv_8_20, fds_8_20, wi_iaload, cnt_40, aTy_40, aLn_40, arr_40, cnt_49, aTy_49, aLn_49, arr_49, B_X9_turned_24, B_X9_turned_27, wi_isub, wi_istore, wi_bipush, B_X9_turned_40, wi_iload, fldv_8_10, fds_8_10, wi_icmp_ge, wi_invokestatic, B_X9_turned_55, wi_if_eq, wi_if_ne, B_X9_turned_72, wi_icmp_gt, B_X9_turned_77, wi_goto, B_X9_turned_81, B_X9_turned_82, fldv_8_34, fds_8_34, B_X9_turned_103, wi_imul, B_X9_turned_107, wi_iadd, B_X9_turned_112, B_X9_turned_113, wi_icmp_eq, B_X9_turned_141, wi_icmp_le, B_X9_turned_148, B_X9_turned_152, B_X9_turned_153, B_X9_turned_165, B_X9_turned_167, wi_iinc, B_X9_turned_181, wi_icmp_ne, B_X9_turned_197, B_X9_turned_199, wi_ireturn, no0, no1, nz1, nz2, nz3, nz4, nz5, nz7, nz8, Classical.not_not, bz0, bz1, wi_nil, ld_0, ld_s, isIv_I, isLv_L, isRv_R, true_and, and_true, lset_0, lset_1, lset_s, avw_I, avw_L, avw_R, clr_cons, clr_nil, kst_0, kst_1, kstL_0, kstL_1, addk_I, pA_0, pA_s, pD_0, pD_s, wid_nil, wid_cons, rcv_c, putv_I, putv_L, List.length_cons, List.length_nil, List.set_cons_zero, List.set_cons_succ, not_false_eq_true, Nat.reduceMod, Nat.reduceDiv, Nat.reduceEqDiff, Nat.reduceLT, Nat.reduceLeDiff, Nat.reduceAdd, Nat.reduceSub, reduceIte, Nat.lt_irrefl, Nat.zero_ne_one, Nat.one_ne_zero, Nat.zero_add, List.nil_append, List.cons_append, Option.toList_some, Option.toList_none, forall_const, false_implies, true_implies, false_or, or_false, true_or, or_true, i_le, i_lt, i_eq, i_eq0, i_lt0, i_0le, i_0lt, i_le0, i_in1, i_cl, nI_add, pk_mul, pk_sub, i_div, i_rem, i_sh1, i_bit, i_or, i_and, i_andn, nt_le, nf_le, nt_lt, nf_lt, nt_eq, nf_eq, not_true_eq_false, and_self, and_false, false_and, eq_self, Bool.toNat_true, Bool.toNat_false, i_bool, i_bool1, Bool.false_eq_true, Bool.true_eq_false, reduceCtorEq, i_neg1, i_neg2, i_neg3, i_neg4, i_neg5, i_neg6, i_neg7, i_neg8, i_neg9, i_nega, i_negb, i_negc, i_max2, i_min2, x1, wrI])
          exact hnx
        | some b =>
          have hb := hGle b hGc
          rw [hGc] at hnx
          try dsimp only at hnx
          rw [if_pos rfl] at hnx
          rcases Nat.lt_or_ge (E (code + 3 ^ i)) b with c | c
          · rw [Nat.min_eq_right (by omega)] at hnx
            try simp (disch := omega) only [no0, no1, nz1, nz2, nz3, nz4, nz5, nz7, nz8, Classical.not_not, bz0, bz1, wi_nil, ld_0, ld_s, isIv_I, isLv_L, isRv_R, true_and, and_true, lset_0, lset_1, lset_s, avw_I, avw_L, avw_R, clr_cons, clr_nil, kst_0, kst_1, kstL_0, kstL_1, addk_I, pA_0, pA_s, pD_0, pD_s, wid_nil, wid_cons, rcv_c, putv_I, putv_L, List.length_cons, List.length_nil, List.set_cons_zero, List.set_cons_succ, not_false_eq_true, Nat.reduceMod, Nat.reduceDiv, Nat.reduceEqDiff, Nat.reduceLT, Nat.reduceLeDiff, Nat.reduceAdd, Nat.reduceSub, reduceIte, Nat.lt_irrefl, Nat.zero_ne_one, Nat.one_ne_zero, Nat.zero_add, List.nil_append, List.cons_append, Option.toList_some, Option.toList_none, forall_const, false_implies, true_implies, false_or, or_false, true_or, or_true, i_le, i_lt, i_eq, i_eq0, i_lt0, i_0le, i_0lt, i_le0, i_in1, i_cl, nI_add, pk_mul, pk_sub, i_div, i_rem, i_sh1, i_bit, i_or, i_and, i_andn, nt_le, nf_le, nt_lt, nf_lt, nt_eq, nf_eq, not_true_eq_false, and_self, and_false, false_and, eq_self, Bool.toNat_true, Bool.toNat_false, i_bool, i_bool1, Bool.false_eq_true, Bool.true_eq_false, reduceCtorEq, i_neg1, i_neg2, i_neg3, i_neg4, i_neg5, i_neg6, i_neg7, i_neg8, i_neg9, i_nega, i_negb, i_negc, i_max2, i_min2, x1, wrI, wi_nil]
            repeat (
              first
              | refine s_X9_turned_0 ?_
              | refine s_X9_turned_6 ?_
              | refine s_X9_turned_24 ?_
              | refine s_X9_turned_27 ?_
              | refine s_X9_turned_55 ?_
              | refine s_X9_turned_72 ?_
              | refine s_X9_turned_77 ?_
              | refine s_X9_turned_81 ?_
              | refine s_X9_turned_82 ?_
              | refine s_X9_turned_103 ?_
              | refine s_X9_turned_107 ?_
              | refine s_X9_turned_112 ?_
              | refine s_X9_turned_113 ?_
              | refine s_X9_turned_141 ?_
              | refine s_X9_turned_148 ?_
              | refine s_X9_turned_152 ?_
              | refine s_X9_turned_153 ?_
              | refine s_X9_turned_165 ?_
              | refine s_X9_turned_167 ?_
              | refine s_X9_turned_181 ?_
              | refine s_X9_turned_197 ?_
              | refine s_X9_turned_199 ?_
              simp (disch := omega) only [B_X9_turned_0, wi_aload_n, wi_iload_n, wi_iconst, wi_invokevirtual, cnt_8, B_X9_turned_6, wi_istore_n, wi_getfield, fldv_8_20, fds_8_20, wi_iaload, cnt_40, aTy_40, aLn_40, arr_40, cnt_49, aTy_49, aLn_49, arr_49, B_X9_turned_24, B_X9_turned_27, wi_isub, wi_istore, wi_bipush, B_X9_turned_40, wi_iload, fldv_8_10, fds_8_10, wi_icmp_ge, wi_invokestatic, B_X9_turned_55, wi_if_eq, wi_if_ne, B_X9_turned_72, wi_icmp_gt, B_X9_turned_77, wi_goto, B_X9_turned_81, B_X9_turned_82, fldv_8_34, fds_8_34, B_X9_turned_103, wi_imul, B_X9_turned_107, wi_iadd, B_X9_turned_112, B_X9_turned_113, wi_icmp_eq, B_X9_turned_141, wi_icmp_le, B_X9_turned_148, B_X9_turned_152, B_X9_turned_153, B_X9_turned_165, B_X9_turned_167, wi_iinc, B_X9_turned_181, wi_icmp_ne, B_X9_turned_197, B_X9_turned_199, wi_ireturn, no0, no1, nz1, nz2, nz3, nz4, nz5, nz7, nz8, Classical.not_not, bz0, bz1, wi_nil, ld_0, ld_s, isIv_I, isLv_L, isRv_R, true_and, and_true, lset_0, lset_1, lset_s, avw_I, avw_L, avw_R, clr_cons, clr_nil, kst_0, kst_1, kstL_0, kstL_1, addk_I, pA_0, pA_s, pD_0, pD_s, wid_nil, wid_cons, rcv_c, putv_I, putv_L, List.length_cons, List.length_nil, List.set_cons_zero, List.set_cons_succ, not_false_eq_true, Nat.reduceMod, Nat.reduceDiv, Nat.reduceEqDiff, Nat.reduceLT, Nat.reduceLeDiff, Nat.reduceAdd, Nat.reduceSub, reduceIte, Nat.lt_irrefl, Nat.zero_ne_one, Nat.one_ne_zero, Nat.zero_add, List.nil_append, List.cons_append, Option.toList_some, Option.toList_none, forall_const, false_implies, true_implies, false_or, or_false, true_or, or_true, i_le, i_lt, i_eq, i_eq0, i_lt0, i_0le, i_0lt, i_le0, i_in1, i_cl, nI_add, pk_mul, pk_sub, i_div, i_rem, i_sh1, i_bit, i_or, i_and, i_andn, nt_le, nf_le, nt_lt, nf_lt, nt_eq, nf_eq, not_true_eq_false, and_self, and_false, false_and, eq_self, Bool.toNat_true, Bool.toNat_false, i_bool, i_bool1, Bool.false_eq_true, Bool.true_eq_false, reduceCtorEq, i_neg1, i_neg2, i_neg3, i_neg4, i_neg5, i_neg6, i_neg7, i_neg8, i_neg9, i_nega, i_negb, i_negc, i_max2, i_min2, x1, wrI])
            exact hnx
          · rw [Nat.min_eq_left c] at hnx
            try simp (disch := omega) only [no0, no1, nz1, nz2, nz3, nz4, nz5, nz7, nz8, Classical.not_not, bz0, bz1, wi_nil, ld_0, ld_s, isIv_I, isLv_L, isRv_R, true_and, and_true, lset_0, lset_1, lset_s, avw_I, avw_L, avw_R, clr_cons, clr_nil, kst_0, kst_1, kstL_0, kstL_1, addk_I, pA_0, pA_s, pD_0, pD_s, wid_nil, wid_cons, rcv_c, putv_I, putv_L, List.length_cons, List.length_nil, List.set_cons_zero, List.set_cons_succ, not_false_eq_true, Nat.reduceMod, Nat.reduceDiv, Nat.reduceEqDiff, Nat.reduceLT, Nat.reduceLeDiff, Nat.reduceAdd, Nat.reduceSub, reduceIte, Nat.lt_irrefl, Nat.zero_ne_one, Nat.one_ne_zero, Nat.zero_add, List.nil_append, List.cons_append, Option.toList_some, Option.toList_none, forall_const, false_implies, true_implies, false_or, or_false, true_or, or_true, i_le, i_lt, i_eq, i_eq0, i_lt0, i_0le, i_0lt, i_le0, i_in1, i_cl, nI_add, pk_mul, pk_sub, i_div, i_rem, i_sh1, i_bit, i_or, i_and, i_andn, nt_le, nf_le, nt_lt, nf_lt, nt_eq, nf_eq, not_true_eq_false, and_self, and_false, false_and, eq_self, Bool.toNat_true, Bool.toNat_false, i_bool, i_bool1, Bool.false_eq_true, Bool.true_eq_false, reduceCtorEq, i_neg1, i_neg2, i_neg3, i_neg4, i_neg5, i_neg6, i_neg7, i_neg8, i_neg9, i_nega, i_negb, i_negc, i_max2, i_min2, x1, wrI, wi_nil]
            repeat (
              first
              | refine s_X9_turned_0 ?_
              | refine s_X9_turned_6 ?_
              | refine s_X9_turned_24 ?_
              | refine s_X9_turned_27 ?_
              | refine s_X9_turned_55 ?_
              | refine s_X9_turned_72 ?_
              | refine s_X9_turned_77 ?_
              | refine s_X9_turned_81 ?_
              | refine s_X9_turned_82 ?_
              | refine s_X9_turned_103 ?_
              | refine s_X9_turned_107 ?_
              | refine s_X9_turned_112 ?_
              | refine s_X9_turned_113 ?_
              | refine s_X9_turned_141 ?_
              | refine s_X9_turned_148 ?_
              | refine s_X9_turned_152 ?_
              | refine s_X9_turned_153 ?_
              | refine s_X9_turned_165 ?_
              | refine s_X9_turned_167 ?_
              | refine s_X9_turned_181 ?_
              | refine s_X9_turned_197 ?_
              | refine s_X9_turned_199 ?_
              simp (disch := omega) only [B_X9_turned_0, wi_aload_n, wi_iload_n, wi_iconst, wi_invokevirtual, cnt_8, B_X9_turned_6, wi_istore_n, wi_getfield, fldv_8_20, fds_8_20, wi_iaload, cnt_40, aTy_40, aLn_40, arr_40, cnt_49, aTy_49, aLn_49, arr_49, B_X9_turned_24, B_X9_turned_27, wi_isub, wi_istore, wi_bipush, B_X9_turned_40, wi_iload, fldv_8_10, fds_8_10, wi_icmp_ge, wi_invokestatic, B_X9_turned_55, wi_if_eq, wi_if_ne, B_X9_turned_72, wi_icmp_gt, B_X9_turned_77, wi_goto, B_X9_turned_81, B_X9_turned_82, fldv_8_34, fds_8_34, B_X9_turned_103, wi_imul, B_X9_turned_107, wi_iadd, B_X9_turned_112, B_X9_turned_113, wi_icmp_eq, B_X9_turned_141, wi_icmp_le, B_X9_turned_148, B_X9_turned_152, B_X9_turned_153, B_X9_turned_165, B_X9_turned_167, wi_iinc, B_X9_turned_181, wi_icmp_ne, B_X9_turned_197, B_X9_turned_199, wi_ireturn, no0, no1, nz1, nz2, nz3, nz4, nz5, nz7, nz8, Classical.not_not, bz0, bz1, wi_nil, ld_0, ld_s, isIv_I, isLv_L, isRv_R, true_and, and_true, lset_0, lset_1, lset_s, avw_I, avw_L, avw_R, clr_cons, clr_nil, kst_0, kst_1, kstL_0, kstL_1, addk_I, pA_0, pA_s, pD_0, pD_s, wid_nil, wid_cons, rcv_c, putv_I, putv_L, List.length_cons, List.length_nil, List.set_cons_zero, List.set_cons_succ, not_false_eq_true, Nat.reduceMod, Nat.reduceDiv, Nat.reduceEqDiff, Nat.reduceLT, Nat.reduceLeDiff, Nat.reduceAdd, Nat.reduceSub, reduceIte, Nat.lt_irrefl, Nat.zero_ne_one, Nat.one_ne_zero, Nat.zero_add, List.nil_append, List.cons_append, Option.toList_some, Option.toList_none, forall_const, false_implies, true_implies, false_or, or_false, true_or, or_true, i_le, i_lt, i_eq, i_eq0, i_lt0, i_0le, i_0lt, i_le0, i_in1, i_cl, nI_add, pk_mul, pk_sub, i_div, i_rem, i_sh1, i_bit, i_or, i_and, i_andn, nt_le, nf_le, nt_lt, nf_lt, nt_eq, nf_eq, not_true_eq_false, and_self, and_false, false_and, eq_self, Bool.toNat_true, Bool.toNat_false, i_bool, i_bool1, Bool.false_eq_true, Bool.true_eq_false, reduceCtorEq, i_neg1, i_neg2, i_neg3, i_neg4, i_neg5, i_neg6, i_neg7, i_neg8, i_neg9, i_nega, i_negb, i_negc, i_max2, i_min2, x1, wrI])
            exact hnx
    refine s_X9_turned_40 ?_
    simp (disch := omega) only [B_X9_turned_40, wi_iload, wi_aload_n, wi_getfield, fldv_8_10, fds_8_10, cnt_8, wi_icmp_ge, wi_iload_n, wi_invokestatic, no0, no1, nz1, nz2, nz3, nz4, nz5, nz7, nz8, Classical.not_not, bz0, bz1, wi_nil, ld_0, ld_s, isIv_I, isLv_L, isRv_R, true_and, and_true, lset_0, lset_1, lset_s, avw_I, avw_L, avw_R, clr_cons, clr_nil, kst_0, kst_1, kstL_0, kstL_1, addk_I, pA_0, pA_s, pD_0, pD_s, wid_nil, wid_cons, rcv_c, putv_I, putv_L, List.length_cons, List.length_nil, List.set_cons_zero, List.set_cons_succ, not_false_eq_true, Nat.reduceMod, Nat.reduceDiv, Nat.reduceEqDiff, Nat.reduceLT, Nat.reduceLeDiff, Nat.reduceAdd, Nat.reduceSub, reduceIte, Nat.lt_irrefl, Nat.zero_ne_one, Nat.one_ne_zero, Nat.zero_add, List.nil_append, List.cons_append, Option.toList_some, Option.toList_none, forall_const, false_implies, true_implies, false_or, or_false, true_or, or_true, i_le, i_lt, i_eq, i_eq0, i_lt0, i_0le, i_0lt, i_le0, i_in1, i_cl, nI_add, pk_mul, pk_sub, i_div, i_rem, i_sh1, i_bit, i_or, i_and, i_andn, nt_le, nf_le, nt_lt, nf_lt, nt_eq, nf_eq, not_true_eq_false, and_self, and_false, false_and, eq_self, Bool.toNat_true, Bool.toNat_false, i_bool, i_bool1, Bool.false_eq_true, Bool.true_eq_false, reduceCtorEq, i_neg1, i_neg2, i_neg3, i_neg4, i_neg5, i_neg6, i_neg7, i_neg8, i_neg9, i_nega, i_negb, i_negc, i_max2, i_min2, (m_n hm)]
    refine c_has (by omega) (by omega) ?_
    cases hb : (sO code 0 (Y 6 0)).testBit i
    · try simp (disch := omega) only [no0, no1, nz1, nz2, nz3, nz4, nz5, nz7, nz8, Classical.not_not, bz0, bz1, wi_nil, ld_0, ld_s, isIv_I, isLv_L, isRv_R, true_and, and_true, lset_0, lset_1, lset_s, avw_I, avw_L, avw_R, clr_cons, clr_nil, kst_0, kst_1, kstL_0, kstL_1, addk_I, pA_0, pA_s, pD_0, pD_s, wid_nil, wid_cons, rcv_c, putv_I, putv_L, List.length_cons, List.length_nil, List.set_cons_zero, List.set_cons_succ, not_false_eq_true, Nat.reduceMod, Nat.reduceDiv, Nat.reduceEqDiff, Nat.reduceLT, Nat.reduceLeDiff, Nat.reduceAdd, Nat.reduceSub, reduceIte, Nat.lt_irrefl, Nat.zero_ne_one, Nat.one_ne_zero, Nat.zero_add, List.nil_append, List.cons_append, Option.toList_some, Option.toList_none, forall_const, false_implies, true_implies, false_or, or_false, true_or, or_true, i_le, i_lt, i_eq, i_eq0, i_lt0, i_0le, i_0lt, i_le0, i_in1, i_cl, nI_add, pk_mul, pk_sub, i_div, i_rem, i_sh1, i_bit, i_or, i_and, i_andn, nt_le, nf_le, nt_lt, nf_lt, nt_eq, nf_eq, not_true_eq_false, and_self, and_false, false_and, eq_self, Bool.toNat_true, Bool.toNat_false, i_bool, i_bool1, Bool.false_eq_true, Bool.true_eq_false, reduceCtorEq, i_neg1, i_neg2, i_neg3, i_neg4, i_neg5, i_neg6, i_neg7, i_neg8, i_neg9, i_nega, i_negb, i_negc, i_max2, i_min2, hb, wi_nil]
      repeat (
        first
        | refine s_X9_turned_0 ?_
        | refine s_X9_turned_6 ?_
        | refine s_X9_turned_24 ?_
        | refine s_X9_turned_27 ?_
        | refine s_X9_turned_55 ?_
        | refine s_X9_turned_72 ?_
        | refine s_X9_turned_77 ?_
        | refine s_X9_turned_81 ?_
        | refine s_X9_turned_103 ?_
        | refine s_X9_turned_107 ?_
        | refine s_X9_turned_112 ?_
        | refine s_X9_turned_113 ?_
        | refine s_X9_turned_141 ?_
        | refine s_X9_turned_148 ?_
        | refine s_X9_turned_152 ?_
        | refine s_X9_turned_153 ?_
        | refine s_X9_turned_165 ?_
        | refine s_X9_turned_167 ?_
        | refine s_X9_turned_181 ?_
        | refine s_X9_turned_197 ?_
        | refine s_X9_turned_199 ?_
        simp (disch := omega) only [B_X9_turned_0, wi_aload_n, wi_iload_n, wi_iconst, wi_invokevirtual, cnt_8, B_X9_turned_6, wi_istore_n, wi_getfield, fldv_8_20, fds_8_20, wi_iaload, cnt_40, aTy_40, aLn_40, arr_40, cnt_49, aTy_49, aLn_49, arr_49, B_X9_turned_24, B_X9_turned_27, wi_isub, wi_istore, wi_bipush, B_X9_turned_40, wi_iload, fldv_8_10, fds_8_10, wi_icmp_ge, wi_invokestatic, B_X9_turned_55, wi_if_eq, wi_if_ne, B_X9_turned_72, wi_icmp_gt, B_X9_turned_77, wi_goto, B_X9_turned_81, B_X9_turned_82, fldv_8_34, fds_8_34, B_X9_turned_103, wi_imul, B_X9_turned_107, wi_iadd, B_X9_turned_112, B_X9_turned_113, wi_icmp_eq, B_X9_turned_141, wi_icmp_le, B_X9_turned_148, B_X9_turned_152, B_X9_turned_153, B_X9_turned_165, B_X9_turned_167, wi_iinc, B_X9_turned_181, wi_icmp_ne, B_X9_turned_197, B_X9_turned_199, wi_ireturn, no0, no1, nz1, nz2, nz3, nz4, nz5, nz7, nz8, Classical.not_not, bz0, bz1, wi_nil, ld_0, ld_s, isIv_I, isLv_L, isRv_R, true_and, and_true, lset_0, lset_1, lset_s, avw_I, avw_L, avw_R, clr_cons, clr_nil, kst_0, kst_1, kstL_0, kstL_1, addk_I, pA_0, pA_s, pD_0, pD_s, wid_nil, wid_cons, rcv_c, putv_I, putv_L, List.length_cons, List.length_nil, List.set_cons_zero, List.set_cons_succ, not_false_eq_true, Nat.reduceMod, Nat.reduceDiv, Nat.reduceEqDiff, Nat.reduceLT, Nat.reduceLeDiff, Nat.reduceAdd, Nat.reduceSub, reduceIte, Nat.lt_irrefl, Nat.zero_ne_one, Nat.one_ne_zero, Nat.zero_add, List.nil_append, List.cons_append, Option.toList_some, Option.toList_none, forall_const, false_implies, true_implies, false_or, or_false, true_or, or_true, i_le, i_lt, i_eq, i_eq0, i_lt0, i_0le, i_0lt, i_le0, i_in1, i_cl, nI_add, pk_mul, pk_sub, i_div, i_rem, i_sh1, i_bit, i_or, i_and, i_andn, nt_le, nf_le, nt_lt, nf_lt, nt_eq, nf_eq, not_true_eq_false, and_self, and_false, false_and, eq_self, Bool.toNat_true, Bool.toNat_false, i_bool, i_bool1, Bool.false_eq_true, Bool.true_eq_false, reduceCtorEq, i_neg1, i_neg2, i_neg3, i_neg4, i_neg5, i_neg6, i_neg7, i_neg8, i_neg9, i_nega, i_negb, i_negc, i_max2, i_min2, hb])
      exact no (by unfold mayF; rw [hb, Bool.false_and])
    · cases t
      · try simp (disch := omega) only [no0, no1, nz1, nz2, nz3, nz4, nz5, nz7, nz8, Classical.not_not, bz0, bz1, wi_nil, ld_0, ld_s, isIv_I, isLv_L, isRv_R, true_and, and_true, lset_0, lset_1, lset_s, avw_I, avw_L, avw_R, clr_cons, clr_nil, kst_0, kst_1, kstL_0, kstL_1, addk_I, pA_0, pA_s, pD_0, pD_s, wid_nil, wid_cons, rcv_c, putv_I, putv_L, List.length_cons, List.length_nil, List.set_cons_zero, List.set_cons_succ, not_false_eq_true, Nat.reduceMod, Nat.reduceDiv, Nat.reduceEqDiff, Nat.reduceLT, Nat.reduceLeDiff, Nat.reduceAdd, Nat.reduceSub, reduceIte, Nat.lt_irrefl, Nat.zero_ne_one, Nat.one_ne_zero, Nat.zero_add, List.nil_append, List.cons_append, Option.toList_some, Option.toList_none, forall_const, false_implies, true_implies, false_or, or_false, true_or, or_true, i_le, i_lt, i_eq, i_eq0, i_lt0, i_0le, i_0lt, i_le0, i_in1, i_cl, nI_add, pk_mul, pk_sub, i_div, i_rem, i_sh1, i_bit, i_or, i_and, i_andn, nt_le, nf_le, nt_lt, nf_lt, nt_eq, nf_eq, not_true_eq_false, and_self, and_false, false_and, eq_self, Bool.toNat_true, Bool.toNat_false, i_bool, i_bool1, Bool.false_eq_true, Bool.true_eq_false, reduceCtorEq, i_neg1, i_neg2, i_neg3, i_neg4, i_neg5, i_neg6, i_neg7, i_neg8, i_neg9, i_nega, i_negb, i_negc, i_max2, i_min2, hb, wi_nil]
        repeat (
          first
          | refine s_X9_turned_0 ?_
          | refine s_X9_turned_6 ?_
          | refine s_X9_turned_24 ?_
          | refine s_X9_turned_27 ?_
          | refine s_X9_turned_55 ?_
          | refine s_X9_turned_72 ?_
          | refine s_X9_turned_77 ?_
          | refine s_X9_turned_81 ?_
          | refine s_X9_turned_103 ?_
          | refine s_X9_turned_107 ?_
          | refine s_X9_turned_112 ?_
          | refine s_X9_turned_113 ?_
          | refine s_X9_turned_141 ?_
          | refine s_X9_turned_148 ?_
          | refine s_X9_turned_152 ?_
          | refine s_X9_turned_153 ?_
          | refine s_X9_turned_165 ?_
          | refine s_X9_turned_167 ?_
          | refine s_X9_turned_181 ?_
          | refine s_X9_turned_197 ?_
          | refine s_X9_turned_199 ?_
          simp (disch := omega) only [B_X9_turned_0, wi_aload_n, wi_iload_n, wi_iconst, wi_invokevirtual, cnt_8, B_X9_turned_6, wi_istore_n, wi_getfield, fldv_8_20, fds_8_20, wi_iaload, cnt_40, aTy_40, aLn_40, arr_40, cnt_49, aTy_49, aLn_49, arr_49, B_X9_turned_24, B_X9_turned_27, wi_isub, wi_istore, wi_bipush, B_X9_turned_40, wi_iload, fldv_8_10, fds_8_10, wi_icmp_ge, wi_invokestatic, B_X9_turned_55, wi_if_eq, wi_if_ne, B_X9_turned_72, wi_icmp_gt, B_X9_turned_77, wi_goto, B_X9_turned_81, B_X9_turned_82, fldv_8_34, fds_8_34, B_X9_turned_103, wi_imul, B_X9_turned_107, wi_iadd, B_X9_turned_112, B_X9_turned_113, wi_icmp_eq, B_X9_turned_141, wi_icmp_le, B_X9_turned_148, B_X9_turned_152, B_X9_turned_153, B_X9_turned_165, B_X9_turned_167, wi_iinc, B_X9_turned_181, wi_icmp_ne, B_X9_turned_197, B_X9_turned_199, wi_ireturn, no0, no1, nz1, nz2, nz3, nz4, nz5, nz7, nz8, Classical.not_not, bz0, bz1, wi_nil, ld_0, ld_s, isIv_I, isLv_L, isRv_R, true_and, and_true, lset_0, lset_1, lset_s, avw_I, avw_L, avw_R, clr_cons, clr_nil, kst_0, kst_1, kstL_0, kstL_1, addk_I, pA_0, pA_s, pD_0, pD_s, wid_nil, wid_cons, rcv_c, putv_I, putv_L, List.length_cons, List.length_nil, List.set_cons_zero, List.set_cons_succ, not_false_eq_true, Nat.reduceMod, Nat.reduceDiv, Nat.reduceEqDiff, Nat.reduceLT, Nat.reduceLeDiff, Nat.reduceAdd, Nat.reduceSub, reduceIte, Nat.lt_irrefl, Nat.zero_ne_one, Nat.one_ne_zero, Nat.zero_add, List.nil_append, List.cons_append, Option.toList_some, Option.toList_none, forall_const, false_implies, true_implies, false_or, or_false, true_or, or_true, i_le, i_lt, i_eq, i_eq0, i_lt0, i_0le, i_0lt, i_le0, i_in1, i_cl, nI_add, pk_mul, pk_sub, i_div, i_rem, i_sh1, i_bit, i_or, i_and, i_andn, nt_le, nf_le, nt_lt, nf_lt, nt_eq, nf_eq, not_true_eq_false, and_self, and_false, false_and, eq_self, Bool.toNat_true, Bool.toNat_false, i_bool, i_bool1, Bool.false_eq_true, Bool.true_eq_false, reduceCtorEq, i_neg1, i_neg2, i_neg3, i_neg4, i_neg5, i_neg6, i_neg7, i_neg8, i_neg9, i_nega, i_negb, i_negc, i_max2, i_min2, hb])
        refine c_costOn (Or.inl rfl) hm ho (by decide) hin ?_
        refine s_X9_turned_72 ?_
        simp (disch := omega) only [B_X9_turned_72, wi_iload, wi_icmp_gt, no0, no1, nz1, nz2, nz3, nz4, nz5, nz7, nz8, Classical.not_not, bz0, bz1, wi_nil, ld_0, ld_s, isIv_I, isLv_L, isRv_R, true_and, and_true, lset_0, lset_1, lset_s, avw_I, avw_L, avw_R, clr_cons, clr_nil, kst_0, kst_1, kstL_0, kstL_1, addk_I, pA_0, pA_s, pD_0, pD_s, wid_nil, wid_cons, rcv_c, putv_I, putv_L, List.length_cons, List.length_nil, List.set_cons_zero, List.set_cons_succ, not_false_eq_true, Nat.reduceMod, Nat.reduceDiv, Nat.reduceEqDiff, Nat.reduceLT, Nat.reduceLeDiff, Nat.reduceAdd, Nat.reduceSub, reduceIte, Nat.lt_irrefl, Nat.zero_ne_one, Nat.one_ne_zero, Nat.zero_add, List.nil_append, List.cons_append, Option.toList_some, Option.toList_none, forall_const, false_implies, true_implies, false_or, or_false, true_or, or_true, i_le, i_lt, i_eq, i_eq0, i_lt0, i_0le, i_0lt, i_le0, i_in1, i_cl, nI_add, pk_mul, pk_sub, i_div, i_rem, i_sh1, i_bit, i_or, i_and, i_andn, nt_le, nf_le, nt_lt, nf_lt, nt_eq, nf_eq, not_true_eq_false, and_self, and_false, false_and, eq_self, Bool.toNat_true, Bool.toNat_false, i_bool, i_bool1, Bool.false_eq_true, Bool.true_eq_false, reduceCtorEq, i_neg1, i_neg2, i_neg3, i_neg4, i_neg5, i_neg6, i_neg7, i_neg8, i_neg9, i_nega, i_negb, i_negc, i_max2, i_min2, si_le]
        refine ⟨fun c => ?_, fun c => ?_⟩
        · try simp (disch := omega) only [no0, no1, nz1, nz2, nz3, nz4, nz5, nz7, nz8, Classical.not_not, bz0, bz1, wi_nil, ld_0, ld_s, isIv_I, isLv_L, isRv_R, true_and, and_true, lset_0, lset_1, lset_s, avw_I, avw_L, avw_R, clr_cons, clr_nil, kst_0, kst_1, kstL_0, kstL_1, addk_I, pA_0, pA_s, pD_0, pD_s, wid_nil, wid_cons, rcv_c, putv_I, putv_L, List.length_cons, List.length_nil, List.set_cons_zero, List.set_cons_succ, not_false_eq_true, Nat.reduceMod, Nat.reduceDiv, Nat.reduceEqDiff, Nat.reduceLT, Nat.reduceLeDiff, Nat.reduceAdd, Nat.reduceSub, reduceIte, Nat.lt_irrefl, Nat.zero_ne_one, Nat.one_ne_zero, Nat.zero_add, List.nil_append, List.cons_append, Option.toList_some, Option.toList_none, forall_const, false_implies, true_implies, false_or, or_false, true_or, or_true, i_le, i_lt, i_eq, i_eq0, i_lt0, i_0le, i_0lt, i_le0, i_in1, i_cl, nI_add, pk_mul, pk_sub, i_div, i_rem, i_sh1, i_bit, i_or, i_and, i_andn, nt_le, nf_le, nt_lt, nf_lt, nt_eq, nf_eq, not_true_eq_false, and_self, and_false, false_and, eq_self, Bool.toNat_true, Bool.toNat_false, i_bool, i_bool1, Bool.false_eq_true, Bool.true_eq_false, reduceCtorEq, i_neg1, i_neg2, i_neg3, i_neg4, i_neg5, i_neg6, i_neg7, i_neg8, i_neg9, i_nega, i_negb, i_negc, i_max2, i_min2, wi_nil]
          repeat (
            first
            | refine s_X9_turned_0 ?_
            | refine s_X9_turned_6 ?_
            | refine s_X9_turned_24 ?_
            | refine s_X9_turned_27 ?_
            | refine s_X9_turned_55 ?_
            | refine s_X9_turned_72 ?_
            | refine s_X9_turned_77 ?_
            | refine s_X9_turned_81 ?_
            | refine s_X9_turned_103 ?_
            | refine s_X9_turned_107 ?_
            | refine s_X9_turned_112 ?_
            | refine s_X9_turned_113 ?_
            | refine s_X9_turned_141 ?_
            | refine s_X9_turned_148 ?_
            | refine s_X9_turned_152 ?_
            | refine s_X9_turned_153 ?_
            | refine s_X9_turned_165 ?_
            | refine s_X9_turned_167 ?_
            | refine s_X9_turned_181 ?_
            | refine s_X9_turned_197 ?_
            | refine s_X9_turned_199 ?_
            simp (disch := omega) only [B_X9_turned_0, wi_aload_n, wi_iload_n, wi_iconst, wi_invokevirtual, cnt_8, B_X9_turned_6, wi_istore_n, wi_getfield, fldv_8_20, fds_8_20, wi_iaload, cnt_40, aTy_40, aLn_40, arr_40, cnt_49, aTy_49, aLn_49, arr_49, B_X9_turned_24, B_X9_turned_27, wi_isub, wi_istore, wi_bipush, B_X9_turned_40, wi_iload, fldv_8_10, fds_8_10, wi_icmp_ge, wi_invokestatic, B_X9_turned_55, wi_if_eq, wi_if_ne, B_X9_turned_72, wi_icmp_gt, B_X9_turned_77, wi_goto, B_X9_turned_81, B_X9_turned_82, fldv_8_34, fds_8_34, B_X9_turned_103, wi_imul, B_X9_turned_107, wi_iadd, B_X9_turned_112, B_X9_turned_113, wi_icmp_eq, B_X9_turned_141, wi_icmp_le, B_X9_turned_148, B_X9_turned_152, B_X9_turned_153, B_X9_turned_165, B_X9_turned_167, wi_iinc, B_X9_turned_181, wi_icmp_ne, B_X9_turned_197, B_X9_turned_199, wi_ireturn, no0, no1, nz1, nz2, nz3, nz4, nz5, nz7, nz8, Classical.not_not, bz0, bz1, wi_nil, ld_0, ld_s, isIv_I, isLv_L, isRv_R, true_and, and_true, lset_0, lset_1, lset_s, avw_I, avw_L, avw_R, clr_cons, clr_nil, kst_0, kst_1, kstL_0, kstL_1, addk_I, pA_0, pA_s, pD_0, pD_s, wid_nil, wid_cons, rcv_c, putv_I, putv_L, List.length_cons, List.length_nil, List.set_cons_zero, List.set_cons_succ, not_false_eq_true, Nat.reduceMod, Nat.reduceDiv, Nat.reduceEqDiff, Nat.reduceLT, Nat.reduceLeDiff, Nat.reduceAdd, Nat.reduceSub, reduceIte, Nat.lt_irrefl, Nat.zero_ne_one, Nat.one_ne_zero, Nat.zero_add, List.nil_append, List.cons_append, Option.toList_some, Option.toList_none, forall_const, false_implies, true_implies, false_or, or_false, true_or, or_true, i_le, i_lt, i_eq, i_eq0, i_lt0, i_0le, i_0lt, i_le0, i_in1, i_cl, nI_add, pk_mul, pk_sub, i_div, i_rem, i_sh1, i_bit, i_or, i_and, i_andn, nt_le, nf_le, nt_lt, nf_lt, nt_eq, nf_eq, not_true_eq_false, and_self, and_false, false_and, eq_self, Bool.toNat_true, Bool.toNat_false, i_bool, i_bool1, Bool.false_eq_true, Bool.true_eq_false, reduceCtorEq, i_neg1, i_neg2, i_neg3, i_neg4, i_neg5, i_neg6, i_neg7, i_neg8, i_neg9, i_nega, i_negb, i_negc, i_max2, i_min2])
          refine no ?_
          unfold mayF
          rw [hb, ez, decide_eq_false (by omega)]
          rfl
        · try simp (disch := omega) only [no0, no1, nz1, nz2, nz3, nz4, nz5, nz7, nz8, Classical.not_not, bz0, bz1, wi_nil, ld_0, ld_s, isIv_I, isLv_L, isRv_R, true_and, and_true, lset_0, lset_1, lset_s, avw_I, avw_L, avw_R, clr_cons, clr_nil, kst_0, kst_1, kstL_0, kstL_1, addk_I, pA_0, pA_s, pD_0, pD_s, wid_nil, wid_cons, rcv_c, putv_I, putv_L, List.length_cons, List.length_nil, List.set_cons_zero, List.set_cons_succ, not_false_eq_true, Nat.reduceMod, Nat.reduceDiv, Nat.reduceEqDiff, Nat.reduceLT, Nat.reduceLeDiff, Nat.reduceAdd, Nat.reduceSub, reduceIte, Nat.lt_irrefl, Nat.zero_ne_one, Nat.one_ne_zero, Nat.zero_add, List.nil_append, List.cons_append, Option.toList_some, Option.toList_none, forall_const, false_implies, true_implies, false_or, or_false, true_or, or_true, i_le, i_lt, i_eq, i_eq0, i_lt0, i_0le, i_0lt, i_le0, i_in1, i_cl, nI_add, pk_mul, pk_sub, i_div, i_rem, i_sh1, i_bit, i_or, i_and, i_andn, nt_le, nf_le, nt_lt, nf_lt, nt_eq, nf_eq, not_true_eq_false, and_self, and_false, false_and, eq_self, Bool.toNat_true, Bool.toNat_false, i_bool, i_bool1, Bool.false_eq_true, Bool.true_eq_false, reduceCtorEq, i_neg1, i_neg2, i_neg3, i_neg4, i_neg5, i_neg6, i_neg7, i_neg8, i_neg9, i_nega, i_negb, i_negc, i_max2, i_min2, wi_nil]
          repeat (
            first
            | refine s_X9_turned_0 ?_
            | refine s_X9_turned_6 ?_
            | refine s_X9_turned_24 ?_
            | refine s_X9_turned_27 ?_
            | refine s_X9_turned_55 ?_
            | refine s_X9_turned_72 ?_
            | refine s_X9_turned_77 ?_
            | refine s_X9_turned_81 ?_
            | refine s_X9_turned_103 ?_
            | refine s_X9_turned_107 ?_
            | refine s_X9_turned_112 ?_
            | refine s_X9_turned_113 ?_
            | refine s_X9_turned_141 ?_
            | refine s_X9_turned_148 ?_
            | refine s_X9_turned_152 ?_
            | refine s_X9_turned_153 ?_
            | refine s_X9_turned_165 ?_
            | refine s_X9_turned_167 ?_
            | refine s_X9_turned_181 ?_
            | refine s_X9_turned_197 ?_
            | refine s_X9_turned_199 ?_
            simp (disch := omega) only [B_X9_turned_0, wi_aload_n, wi_iload_n, wi_iconst, wi_invokevirtual, cnt_8, B_X9_turned_6, wi_istore_n, wi_getfield, fldv_8_20, fds_8_20, wi_iaload, cnt_40, aTy_40, aLn_40, arr_40, cnt_49, aTy_49, aLn_49, arr_49, B_X9_turned_24, B_X9_turned_27, wi_isub, wi_istore, wi_bipush, B_X9_turned_40, wi_iload, fldv_8_10, fds_8_10, wi_icmp_ge, wi_invokestatic, B_X9_turned_55, wi_if_eq, wi_if_ne, B_X9_turned_72, wi_icmp_gt, B_X9_turned_77, wi_goto, B_X9_turned_81, B_X9_turned_82, fldv_8_34, fds_8_34, B_X9_turned_103, wi_imul, B_X9_turned_107, wi_iadd, B_X9_turned_112, B_X9_turned_113, wi_icmp_eq, B_X9_turned_141, wi_icmp_le, B_X9_turned_148, B_X9_turned_152, B_X9_turned_153, B_X9_turned_165, B_X9_turned_167, wi_iinc, B_X9_turned_181, wi_icmp_ne, B_X9_turned_197, B_X9_turned_199, wi_ireturn, no0, no1, nz1, nz2, nz3, nz4, nz5, nz7, nz8, Classical.not_not, bz0, bz1, wi_nil, ld_0, ld_s, isIv_I, isLv_L, isRv_R, true_and, and_true, lset_0, lset_1, lset_s, avw_I, avw_L, avw_R, clr_cons, clr_nil, kst_0, kst_1, kstL_0, kstL_1, addk_I, pA_0, pA_s, pD_0, pD_s, wid_nil, wid_cons, rcv_c, putv_I, putv_L, List.length_cons, List.length_nil, List.set_cons_zero, List.set_cons_succ, not_false_eq_true, Nat.reduceMod, Nat.reduceDiv, Nat.reduceEqDiff, Nat.reduceLT, Nat.reduceLeDiff, Nat.reduceAdd, Nat.reduceSub, reduceIte, Nat.lt_irrefl, Nat.zero_ne_one, Nat.one_ne_zero, Nat.zero_add, List.nil_append, List.cons_append, Option.toList_some, Option.toList_none, forall_const, false_implies, true_implies, false_or, or_false, true_or, or_true, i_le, i_lt, i_eq, i_eq0, i_lt0, i_0le, i_0lt, i_le0, i_in1, i_cl, nI_add, pk_mul, pk_sub, i_div, i_rem, i_sh1, i_bit, i_or, i_and, i_andn, nt_le, nf_le, nt_lt, nf_lt, nt_eq, nf_eq, not_true_eq_false, and_self, and_false, false_and, eq_self, Bool.toNat_true, Bool.toNat_false, i_bool, i_bool1, Bool.false_eq_true, Bool.true_eq_false, reduceCtorEq, i_neg1, i_neg2, i_neg3, i_neg4, i_neg5, i_neg6, i_neg7, i_neg8, i_neg9, i_nega, i_negb, i_negc, i_max2, i_min2])
          rw [← pk_sub (show csum (ycz Y) 5 (sO code 2 (Y 6 0)) ≤ Y 6 2 by omega)]
          refine yes ?_
          unfold mayF
          rw [hb, ez, decide_eq_true (by omega)]
          rfl
      · try simp (disch := omega) only [no0, no1, nz1, nz2, nz3, nz4, nz5, nz7, nz8, Classical.not_not, bz0, bz1, wi_nil, ld_0, ld_s, isIv_I, isLv_L, isRv_R, true_and, and_true, lset_0, lset_1, lset_s, avw_I, avw_L, avw_R, clr_cons, clr_nil, kst_0, kst_1, kstL_0, kstL_1, addk_I, pA_0, pA_s, pD_0, pD_s, wid_nil, wid_cons, rcv_c, putv_I, putv_L, List.length_cons, List.length_nil, List.set_cons_zero, List.set_cons_succ, not_false_eq_true, Nat.reduceMod, Nat.reduceDiv, Nat.reduceEqDiff, Nat.reduceLT, Nat.reduceLeDiff, Nat.reduceAdd, Nat.reduceSub, reduceIte, Nat.lt_irrefl, Nat.zero_ne_one, Nat.one_ne_zero, Nat.zero_add, List.nil_append, List.cons_append, Option.toList_some, Option.toList_none, forall_const, false_implies, true_implies, false_or, or_false, true_or, or_true, i_le, i_lt, i_eq, i_eq0, i_lt0, i_0le, i_0lt, i_le0, i_in1, i_cl, nI_add, pk_mul, pk_sub, i_div, i_rem, i_sh1, i_bit, i_or, i_and, i_andn, nt_le, nf_le, nt_lt, nf_lt, nt_eq, nf_eq, not_true_eq_false, and_self, and_false, false_and, eq_self, Bool.toNat_true, Bool.toNat_false, i_bool, i_bool1, Bool.false_eq_true, Bool.true_eq_false, reduceCtorEq, i_neg1, i_neg2, i_neg3, i_neg4, i_neg5, i_neg6, i_neg7, i_neg8, i_neg9, i_nega, i_negb, i_negc, i_max2, i_min2, hb, wi_nil]
        repeat (
          first
          | refine s_X9_turned_0 ?_
          | refine s_X9_turned_6 ?_
          | refine s_X9_turned_24 ?_
          | refine s_X9_turned_27 ?_
          | refine s_X9_turned_55 ?_
          | refine s_X9_turned_72 ?_
          | refine s_X9_turned_77 ?_
          | refine s_X9_turned_81 ?_
          | refine s_X9_turned_103 ?_
          | refine s_X9_turned_107 ?_
          | refine s_X9_turned_112 ?_
          | refine s_X9_turned_113 ?_
          | refine s_X9_turned_141 ?_
          | refine s_X9_turned_148 ?_
          | refine s_X9_turned_152 ?_
          | refine s_X9_turned_153 ?_
          | refine s_X9_turned_165 ?_
          | refine s_X9_turned_167 ?_
          | refine s_X9_turned_181 ?_
          | refine s_X9_turned_197 ?_
          | refine s_X9_turned_199 ?_
          simp (disch := omega) only [B_X9_turned_0, wi_aload_n, wi_iload_n, wi_iconst, wi_invokevirtual, cnt_8, B_X9_turned_6, wi_istore_n, wi_getfield, fldv_8_20, fds_8_20, wi_iaload, cnt_40, aTy_40, aLn_40, arr_40, cnt_49, aTy_49, aLn_49, arr_49, B_X9_turned_24, B_X9_turned_27, wi_isub, wi_istore, wi_bipush, B_X9_turned_40, wi_iload, fldv_8_10, fds_8_10, wi_icmp_ge, wi_invokestatic, B_X9_turned_55, wi_if_eq, wi_if_ne, B_X9_turned_72, wi_icmp_gt, B_X9_turned_77, wi_goto, B_X9_turned_81, B_X9_turned_82, fldv_8_34, fds_8_34, B_X9_turned_103, wi_imul, B_X9_turned_107, wi_iadd, B_X9_turned_112, B_X9_turned_113, wi_icmp_eq, B_X9_turned_141, wi_icmp_le, B_X9_turned_148, B_X9_turned_152, B_X9_turned_153, B_X9_turned_165, B_X9_turned_167, wi_iinc, B_X9_turned_181, wi_icmp_ne, B_X9_turned_197, B_X9_turned_199, wi_ireturn, no0, no1, nz1, nz2, nz3, nz4, nz5, nz7, nz8, Classical.not_not, bz0, bz1, wi_nil, ld_0, ld_s, isIv_I, isLv_L, isRv_R, true_and, and_true, lset_0, lset_1, lset_s, avw_I, avw_L, avw_R, clr_cons, clr_nil, kst_0, kst_1, kstL_0, kstL_1, addk_I, pA_0, pA_s, pD_0, pD_s, wid_nil, wid_cons, rcv_c, putv_I, putv_L, List.length_cons, List.length_nil, List.set_cons_zero, List.set_cons_succ, not_false_eq_true, Nat.reduceMod, Nat.reduceDiv, Nat.reduceEqDiff, Nat.reduceLT, Nat.reduceLeDiff, Nat.reduceAdd, Nat.reduceSub, reduceIte, Nat.lt_irrefl, Nat.zero_ne_one, Nat.one_ne_zero, Nat.zero_add, List.nil_append, List.cons_append, Option.toList_some, Option.toList_none, forall_const, false_implies, true_implies, false_or, or_false, true_or, or_true, i_le, i_lt, i_eq, i_eq0, i_lt0, i_0le, i_0lt, i_le0, i_in1, i_cl, nI_add, pk_mul, pk_sub, i_div, i_rem, i_sh1, i_bit, i_or, i_and, i_andn, nt_le, nf_le, nt_lt, nf_lt, nt_eq, nf_eq, not_true_eq_false, and_self, and_false, false_and, eq_self, Bool.toNat_true, Bool.toNat_false, i_bool, i_bool1, Bool.false_eq_true, Bool.true_eq_false, reduceCtorEq, i_neg1, i_neg2, i_neg3, i_neg4, i_neg5, i_neg6, i_neg7, i_neg8, i_neg9, i_nega, i_negb, i_negc, i_max2, i_min2, hb])
        refine yes ?_
        unfold mayF
        rw [hb]
        rfl
theorem c_turned {t : Bool} {code : Nat} {E : Nat → Nat} (hc : code < 3 ^ Y 6 0) (hm : YrM S 40 Y) (ho : YOk 40 Y) (hE : ∀ c, c < 3 ^ Y 6 0 → gA S 49 0 c = nI (E c) ∧ E c ≤ 100) (q : P (some (aI (nI ((boF (mayF Y t code) (fun i => E (code + (if t = true then 3 ^ i else 2 * 3 ^ i))) t (Y 6 0)).getD (E code))))) S) : wpM (d + 5) mX9_turned [aR 8 0, aI (nI code), aI (nI t.toNat)] S P := by
  have hn5 := ho.1.1
  have h243 := p3_le hn5
  have h32 := p2_lt hn5
  have hK := sO_lt (code := code) (w := 2) (Y 6 0)
  refine x_entry (ls2 := [aR 8 0, aI (nI code), aI (nI t.toNat), aU, aU, aU, aU, aU, aU, aU, aU]) (Nat.le_of_ble_eq_true rfl) pl_9 rfl (Nat.le_of_ble_eq_true rfl) ?_
  try simp (disch := omega) only [no0, no1, nz1, nz2, nz3, nz4, nz5, nz7, nz8, Classical.not_not, bz0, bz1, wi_nil, ld_0, ld_s, isIv_I, isLv_L, isRv_R, true_and, and_true, lset_0, lset_1, lset_s, avw_I, avw_L, avw_R, clr_cons, clr_nil, kst_0, kst_1, kstL_0, kstL_1, addk_I, pA_0, pA_s, pD_0, pD_s, wid_nil, wid_cons, rcv_c, putv_I, putv_L, List.length_cons, List.length_nil, List.set_cons_zero, List.set_cons_succ, not_false_eq_true, Nat.reduceMod, Nat.reduceDiv, Nat.reduceEqDiff, Nat.reduceLT, Nat.reduceLeDiff, Nat.reduceAdd, Nat.reduceSub, reduceIte, Nat.lt_irrefl, Nat.zero_ne_one, Nat.one_ne_zero, Nat.zero_add, List.nil_append, List.cons_append, Option.toList_some, Option.toList_none, forall_const, false_implies, true_implies, false_or, or_false, true_or, or_true, i_le, i_lt, i_eq, i_eq0, i_lt0, i_0le, i_0lt, i_le0, i_in1, i_cl, nI_add, pk_mul, pk_sub, i_div, i_rem, i_sh1, i_bit, i_or, i_and, i_andn, nt_le, nf_le, nt_lt, nf_lt, nt_eq, nf_eq, not_true_eq_false, and_self, and_false, false_and, eq_self, Bool.toNat_true, Bool.toNat_false, i_bool, i_bool1, Bool.false_eq_true, Bool.true_eq_false, reduceCtorEq, i_neg1, i_neg2, i_neg3, i_neg4, i_neg5, i_neg6, i_neg7, i_neg8, i_neg9, i_nega, i_negb, i_negc, i_max2, i_min2, wi_nil]
  repeat (
    first
    | refine s_X9_turned_0 ?_
    | refine s_X9_turned_6 ?_
    | refine s_X9_turned_24 ?_
    | refine s_X9_turned_27 ?_
    | refine s_X9_turned_55 ?_
    | refine s_X9_turned_72 ?_
    | refine s_X9_turned_77 ?_
    | refine s_X9_turned_81 ?_
    | refine s_X9_turned_82 ?_
    | refine s_X9_turned_103 ?_
    | refine s_X9_turned_107 ?_
    | refine s_X9_turned_112 ?_
    | refine s_X9_turned_113 ?_
    | refine s_X9_turned_141 ?_
    | refine s_X9_turned_148 ?_
    | refine s_X9_turned_152 ?_
    | refine s_X9_turned_153 ?_
    | refine s_X9_turned_165 ?_
    | refine s_X9_turned_167 ?_
    | refine s_X9_turned_181 ?_
    | refine s_X9_turned_197 ?_
    | refine s_X9_turned_199 ?_
    simp (disch := omega) only [B_X9_turned_0, wi_aload_n, wi_iload_n, wi_iconst, wi_invokevirtual, cnt_8, B_X9_turned_6, wi_istore_n, wi_getfield, fldv_8_20, fds_8_20, wi_iaload, cnt_40, aTy_40, aLn_40, arr_40, cnt_49, aTy_49, aLn_49, arr_49, B_X9_turned_24, B_X9_turned_27, wi_isub, wi_istore, wi_bipush, B_X9_turned_40, wi_iload, fldv_8_10, fds_8_10, wi_icmp_ge, wi_invokestatic, B_X9_turned_55, wi_if_eq, wi_if_ne, B_X9_turned_72, wi_icmp_gt, B_X9_turned_77, wi_goto, B_X9_turned_81, B_X9_turned_82, fldv_8_34, fds_8_34, B_X9_turned_103, wi_imul, B_X9_turned_107, wi_iadd, B_X9_turned_112, B_X9_turned_113, wi_icmp_eq, B_X9_turned_141, wi_icmp_le, B_X9_turned_148, B_X9_turned_152, B_X9_turned_153, B_X9_turned_165, B_X9_turned_167, wi_iinc, B_X9_turned_181, wi_icmp_ne, B_X9_turned_197, B_X9_turned_199, wi_ireturn, no0, no1, nz1, nz2, nz3, nz4, nz5, nz7, nz8, Classical.not_not, bz0, bz1, wi_nil, ld_0, ld_s, isIv_I, isLv_L, isRv_R, true_and, and_true, lset_0, lset_1, lset_s, avw_I, avw_L, avw_R, clr_cons, clr_nil, kst_0, kst_1, kstL_0, kstL_1, addk_I, pA_0, pA_s, pD_0, pD_s, wid_nil, wid_cons, rcv_c, putv_I, putv_L, List.length_cons, List.length_nil, List.set_cons_zero, List.set_cons_succ, not_false_eq_true, Nat.reduceMod, Nat.reduceDiv, Nat.reduceEqDiff, Nat.reduceLT, Nat.reduceLeDiff, Nat.reduceAdd, Nat.reduceSub, reduceIte, Nat.lt_irrefl, Nat.zero_ne_one, Nat.one_ne_zero, Nat.zero_add, List.nil_append, List.cons_append, Option.toList_some, Option.toList_none, forall_const, false_implies, true_implies, false_or, or_false, true_or, or_true, i_le, i_lt, i_eq, i_eq0, i_lt0, i_0le, i_0lt, i_le0, i_in1, i_cl, nI_add, pk_mul, pk_sub, i_div, i_rem, i_sh1, i_bit, i_or, i_and, i_andn, nt_le, nf_le, nt_lt, nf_lt, nt_eq, nf_eq, not_true_eq_false, and_self, and_false, false_and, eq_self, Bool.toNat_true, Bool.toNat_false, i_bool, i_bool1, Bool.false_eq_true, Bool.true_eq_false, reduceCtorEq, i_neg1, i_neg2, i_neg3, i_neg4, i_neg5, i_neg6, i_neg7, i_neg8, i_neg9, i_nega, i_negb, i_negc, i_max2, i_min2])
  refine c_setOf (by omega) (by decide) hm hn5 ?_
  try simp (disch := omega) only [no0, no1, nz1, nz2, nz3, nz4, nz5, nz7, nz8, Classical.not_not, bz0, bz1, wi_nil, ld_0, ld_s, isIv_I, isLv_L, isRv_R, true_and, and_true, lset_0, lset_1, lset_s, avw_I, avw_L, avw_R, clr_cons, clr_nil, kst_0, kst_1, kstL_0, kstL_1, addk_I, pA_0, pA_s, pD_0, pD_s, wid_nil, wid_cons, rcv_c, putv_I, putv_L, List.length_cons, List.length_nil, List.set_cons_zero, List.set_cons_succ, not_false_eq_true, Nat.reduceMod, Nat.reduceDiv, Nat.reduceEqDiff, Nat.reduceLT, Nat.reduceLeDiff, Nat.reduceAdd, Nat.reduceSub, reduceIte, Nat.lt_irrefl, Nat.zero_ne_one, Nat.one_ne_zero, Nat.zero_add, List.nil_append, List.cons_append, Option.toList_some, Option.toList_none, forall_const, false_implies, true_implies, false_or, or_false, true_or, or_true, i_le, i_lt, i_eq, i_eq0, i_lt0, i_0le, i_0lt, i_le0, i_in1, i_cl, nI_add, pk_mul, pk_sub, i_div, i_rem, i_sh1, i_bit, i_or, i_and, i_andn, nt_le, nf_le, nt_lt, nf_lt, nt_eq, nf_eq, not_true_eq_false, and_self, and_false, false_and, eq_self, Bool.toNat_true, Bool.toNat_false, i_bool, i_bool1, Bool.false_eq_true, Bool.true_eq_false, reduceCtorEq, i_neg1, i_neg2, i_neg3, i_neg4, i_neg5, i_neg6, i_neg7, i_neg8, i_neg9, i_nega, i_negb, i_negc, i_max2, i_min2, (m_will hm), wi_nil]
  repeat (
    first
    | refine s_X9_turned_0 ?_
    | refine s_X9_turned_6 ?_
    | refine s_X9_turned_24 ?_
    | refine s_X9_turned_27 ?_
    | refine s_X9_turned_55 ?_
    | refine s_X9_turned_72 ?_
    | refine s_X9_turned_77 ?_
    | refine s_X9_turned_81 ?_
    | refine s_X9_turned_82 ?_
    | refine s_X9_turned_103 ?_
    | refine s_X9_turned_107 ?_
    | refine s_X9_turned_112 ?_
    | refine s_X9_turned_113 ?_
    | refine s_X9_turned_141 ?_
    | refine s_X9_turned_148 ?_
    | refine s_X9_turned_152 ?_
    | refine s_X9_turned_153 ?_
    | refine s_X9_turned_165 ?_
    | refine s_X9_turned_167 ?_
    | refine s_X9_turned_181 ?_
    | refine s_X9_turned_197 ?_
    | refine s_X9_turned_199 ?_
    simp (disch := omega) only [B_X9_turned_0, wi_aload_n, wi_iload_n, wi_iconst, wi_invokevirtual, cnt_8, B_X9_turned_6, wi_istore_n, wi_getfield, fldv_8_20, fds_8_20, wi_iaload, cnt_40, aTy_40, aLn_40, arr_40, cnt_49, aTy_49, aLn_49, arr_49, B_X9_turned_24, B_X9_turned_27, wi_isub, wi_istore, wi_bipush, B_X9_turned_40, wi_iload, fldv_8_10, fds_8_10, wi_icmp_ge, wi_invokestatic, B_X9_turned_55, wi_if_eq, wi_if_ne, B_X9_turned_72, wi_icmp_gt, B_X9_turned_77, wi_goto, B_X9_turned_81, B_X9_turned_82, fldv_8_34, fds_8_34, B_X9_turned_103, wi_imul, B_X9_turned_107, wi_iadd, B_X9_turned_112, B_X9_turned_113, wi_icmp_eq, B_X9_turned_141, wi_icmp_le, B_X9_turned_148, B_X9_turned_152, B_X9_turned_153, B_X9_turned_165, B_X9_turned_167, wi_iinc, B_X9_turned_181, wi_icmp_ne, B_X9_turned_197, B_X9_turned_199, wi_ireturn, no0, no1, nz1, nz2, nz3, nz4, nz5, nz7, nz8, Classical.not_not, bz0, bz1, wi_nil, ld_0, ld_s, isIv_I, isLv_L, isRv_R, true_and, and_true, lset_0, lset_1, lset_s, avw_I, avw_L, avw_R, clr_cons, clr_nil, kst_0, kst_1, kstL_0, kstL_1, addk_I, pA_0, pA_s, pD_0, pD_s, wid_nil, wid_cons, rcv_c, putv_I, putv_L, List.length_cons, List.length_nil, List.set_cons_zero, List.set_cons_succ, not_false_eq_true, Nat.reduceMod, Nat.reduceDiv, Nat.reduceEqDiff, Nat.reduceLT, Nat.reduceLeDiff, Nat.reduceAdd, Nat.reduceSub, reduceIte, Nat.lt_irrefl, Nat.zero_ne_one, Nat.one_ne_zero, Nat.zero_add, List.nil_append, List.cons_append, Option.toList_some, Option.toList_none, forall_const, false_implies, true_implies, false_or, or_false, true_or, or_true, i_le, i_lt, i_eq, i_eq0, i_lt0, i_0le, i_0lt, i_le0, i_in1, i_cl, nI_add, pk_mul, pk_sub, i_div, i_rem, i_sh1, i_bit, i_or, i_and, i_andn, nt_le, nf_le, nt_lt, nf_lt, nt_eq, nf_eq, not_true_eq_false, and_self, and_false, false_and, eq_self, Bool.toNat_true, Bool.toNat_false, i_bool, i_bool1, Bool.false_eq_true, Bool.true_eq_false, reduceCtorEq, i_neg1, i_neg2, i_neg3, i_neg4, i_neg5, i_neg6, i_neg7, i_neg8, i_neg9, i_nega, i_negb, i_negc, i_max2, i_min2, (m_will hm)])
  refine c_setOf (by omega) (by decide) hm hn5 ?_
  try simp (disch := omega) only [no0, no1, nz1, nz2, nz3, nz4, nz5, nz7, nz8, Classical.not_not, bz0, bz1, wi_nil, ld_0, ld_s, isIv_I, isLv_L, isRv_R, true_and, and_true, lset_0, lset_1, lset_s, avw_I, avw_L, avw_R, clr_cons, clr_nil, kst_0, kst_1, kstL_0, kstL_1, addk_I, pA_0, pA_s, pD_0, pD_s, wid_nil, wid_cons, rcv_c, putv_I, putv_L, List.length_cons, List.length_nil, List.set_cons_zero, List.set_cons_succ, not_false_eq_true, Nat.reduceMod, Nat.reduceDiv, Nat.reduceEqDiff, Nat.reduceLT, Nat.reduceLeDiff, Nat.reduceAdd, Nat.reduceSub, reduceIte, Nat.lt_irrefl, Nat.zero_ne_one, Nat.one_ne_zero, Nat.zero_add, List.nil_append, List.cons_append, Option.toList_some, Option.toList_none, forall_const, false_implies, true_implies, false_or, or_false, true_or, or_true, i_le, i_lt, i_eq, i_eq0, i_lt0, i_0le, i_0lt, i_le0, i_in1, i_cl, nI_add, pk_mul, pk_sub, i_div, i_rem, i_sh1, i_bit, i_or, i_and, i_andn, nt_le, nf_le, nt_lt, nf_lt, nt_eq, nf_eq, not_true_eq_false, and_self, and_false, false_and, eq_self, Bool.toNat_true, Bool.toNat_false, i_bool, i_bool1, Bool.false_eq_true, Bool.true_eq_false, reduceCtorEq, i_neg1, i_neg2, i_neg3, i_neg4, i_neg5, i_neg6, i_neg7, i_neg8, i_neg9, i_nega, i_negb, i_negc, i_max2, i_min2, wi_nil]
  repeat (
    first
    | refine s_X9_turned_0 ?_
    | refine s_X9_turned_6 ?_
    | refine s_X9_turned_24 ?_
    | refine s_X9_turned_27 ?_
    | refine s_X9_turned_55 ?_
    | refine s_X9_turned_72 ?_
    | refine s_X9_turned_77 ?_
    | refine s_X9_turned_81 ?_
    | refine s_X9_turned_82 ?_
    | refine s_X9_turned_103 ?_
    | refine s_X9_turned_107 ?_
    | refine s_X9_turned_112 ?_
    | refine s_X9_turned_113 ?_
    | refine s_X9_turned_141 ?_
    | refine s_X9_turned_148 ?_
    | refine s_X9_turned_152 ?_
    | refine s_X9_turned_153 ?_
    | refine s_X9_turned_165 ?_
    | refine s_X9_turned_167 ?_
    | refine s_X9_turned_181 ?_
    | refine s_X9_turned_197 ?_
    | refine s_X9_turned_199 ?_
    simp (disch := omega) only [B_X9_turned_0, wi_aload_n, wi_iload_n, wi_iconst, wi_invokevirtual, cnt_8, B_X9_turned_6, wi_istore_n, wi_getfield, fldv_8_20, fds_8_20, wi_iaload, cnt_40, aTy_40, aLn_40, arr_40, cnt_49, aTy_49, aLn_49, arr_49, B_X9_turned_24, B_X9_turned_27, wi_isub, wi_istore, wi_bipush, B_X9_turned_40, wi_iload, fldv_8_10, fds_8_10, wi_icmp_ge, wi_invokestatic, B_X9_turned_55, wi_if_eq, wi_if_ne, B_X9_turned_72, wi_icmp_gt, B_X9_turned_77, wi_goto, B_X9_turned_81, B_X9_turned_82, fldv_8_34, fds_8_34, B_X9_turned_103, wi_imul, B_X9_turned_107, wi_iadd, B_X9_turned_112, B_X9_turned_113, wi_icmp_eq, B_X9_turned_141, wi_icmp_le, B_X9_turned_148, B_X9_turned_152, B_X9_turned_153, B_X9_turned_165, B_X9_turned_167, wi_iinc, B_X9_turned_181, wi_icmp_ne, B_X9_turned_197, B_X9_turned_199, wi_ireturn, no0, no1, nz1, nz2, nz3, nz4, nz5, nz7, nz8, Classical.not_not, bz0, bz1, wi_nil, ld_0, ld_s, isIv_I, isLv_L, isRv_R, true_and, and_true, lset_0, lset_1, lset_s, avw_I, avw_L, avw_R, clr_cons, clr_nil, kst_0, kst_1, kstL_0, kstL_1, addk_I, pA_0, pA_s, pD_0, pD_s, wid_nil, wid_cons, rcv_c, putv_I, putv_L, List.length_cons, List.length_nil, List.set_cons_zero, List.set_cons_succ, not_false_eq_true, Nat.reduceMod, Nat.reduceDiv, Nat.reduceEqDiff, Nat.reduceLT, Nat.reduceLeDiff, Nat.reduceAdd, Nat.reduceSub, reduceIte, Nat.lt_irrefl, Nat.zero_ne_one, Nat.one_ne_zero, Nat.zero_add, List.nil_append, List.cons_append, Option.toList_some, Option.toList_none, forall_const, false_implies, true_implies, false_or, or_false, true_or, or_true, i_le, i_lt, i_eq, i_eq0, i_lt0, i_0le, i_0lt, i_le0, i_in1, i_cl, nI_add, pk_mul, pk_sub, i_div, i_rem, i_sh1, i_bit, i_or, i_and, i_andn, nt_le, nf_le, nt_lt, nf_lt, nt_eq, nf_eq, not_true_eq_false, and_self, and_false, false_and, eq_self, Bool.toNat_true, Bool.toNat_false, i_bool, i_bool1, Bool.false_eq_true, Bool.true_eq_false, reduceCtorEq, i_neg1, i_neg2, i_neg3, i_neg4, i_neg5, i_neg6, i_neg7, i_neg8, i_neg9, i_nega, i_negb, i_negc, i_max2, i_min2])
  refine c_costsOf (Or.inl rfl) hm ho (by decide) (by omega) ?_
  refine s_X9_turned_27 ?_
  simp only [B_X9_turned_27, wi_isub, wi_istore, wi_bipush, wi_iconst, no0, no1, nz1, nz2, nz3, nz4, nz5, nz7, nz8, Classical.not_not, bz0, bz1, wi_nil, ld_0, ld_s, isIv_I, isLv_L, isRv_R, true_and, and_true, lset_0, lset_1, lset_s, avw_I, avw_L, avw_R, clr_cons, clr_nil, kst_0, kst_1, kstL_0, kstL_1, addk_I, pA_0, pA_s, pD_0, pD_s, wid_nil, wid_cons, rcv_c, putv_I, putv_L, List.length_cons, List.length_nil, List.set_cons_zero, List.set_cons_succ, not_false_eq_true, Nat.reduceMod, Nat.reduceDiv, Nat.reduceEqDiff, Nat.reduceLT, Nat.reduceLeDiff, Nat.reduceAdd, Nat.reduceSub, reduceIte, Nat.lt_irrefl, Nat.zero_ne_one, Nat.one_ne_zero, Nat.zero_add, List.nil_append, List.cons_append, Option.toList_some, Option.toList_none, forall_const, false_implies, true_implies, false_or, or_false, true_or, or_true]
  exact l_turned hc hm ho hE q (Y 6 0) 0 (by omega)
end
