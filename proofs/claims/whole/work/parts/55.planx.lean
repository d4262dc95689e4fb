-- PART 55: plans: the class's side
def lv (i : Nat) : Nat := if i = 1 then 1 else if i = 3 then 2 else if i = 4 then 3 else 0
def yi (e : Nat) : Nat := if e = 0 then 1 else if e = 1 then 3 else 4
/-- what a seek from depth e on leaves as it was -/
def FP (e : Nat) (S S2 : MS) : Prop := (∀ k i f, ¬ (k = 1 ∧ f = 4) → ¬ (k = 6 ∧ e + 1 < lv i) → gI S2 k i f = gI S k i f) ∧ (∀ k i f, gL S2 k i f = gL S k i f) ∧ (∀ k i, ¬ (k = 13 ∨ k = 14) → ¬ (20 ≤ k ∧ k ≤ 25 ∧ e + 1 < lv i) → ¬ (k = 26 ∧ e < lv i) → gA S2 k i = gA S k i) ∧ ∀ t, t < e → gA S2 13 0 t = gA S 13 0 t
theorem FP.refl {e : Nat} {S : MS} : FP e S S := ⟨fun _ _ _ _ _ => rfl, fun _ _ _ => rfl, fun _ _ _ _ _ => rfl, fun _ _ => rfl⟩
theorem FP.trans {e : Nat} {S T U : MS} (h1 : FP e S T) (h2 : FP e T U) : FP e S U := ⟨fun k i f a b => (h2.1 k i f a b).trans (h1.1 k i f a b), fun k i f => (h2.2.1 k i f).trans (h1.2.1 k i f), fun k i a b c => (h2.2.2.1 k i a b c).trans (h1.2.2.1 k i a b c), fun t h => (h2.2.2.2 t h).trans (h1.2.2.2 t h)⟩
theorem FP.mono {e e2 : Nat} {S T : MS} (h : FP e2 S T) (he : e ≤ e2) : FP e S T := ⟨fun k i f a b => h.1 k i f a (fun q => b ⟨q.1, by omega⟩), h.2.1, fun k i a b c => h.2.2.1 k i a (fun q => b ⟨q.1, q.2.1, by omega⟩) (fun q => c ⟨q.1, by omega⟩), fun t ht => h.2.2.2 t (by omega)⟩
theorem fp_most {e : Nat} {S : MS} {v : Int32} : FP e S (sI S 1 0 4 v) := ⟨fun k i f a _ => by rw [gI_sI, if_neg (fun q => a ⟨q.1, q.2.2⟩)], fun _ _ _ => rfl, fun _ _ _ _ _ => rfl, fun _ _ => rfl⟩
theorem fp_14 {e : Nat} {S : MS} {r : Nat → Int32} : FP e S (sA S 14 0 r) := ⟨fun _ _ _ _ _ => rfl, fun _ _ _ => rfl, fun k i a _ _ => by rw [gA_sA, if_neg (fun q => a (Or.inr q.1))], fun _ _ => rfl⟩
theorem fp_13 {e : Nat} {S : MS} {v : Int32} : FP e S (sA S 13 0 (upd (gA S 13 0) e v)) := ⟨fun _ _ _ _ _ => rfl, fun _ _ _ => rfl, fun k i a _ _ => by rw [gA_sA, if_neg (fun q => a (Or.inl q.1))], fun t h => by rw [gA_same, pk_un (by omega)]⟩
theorem fp_26 {e j : Nat} {S : MS} {r : Nat → Int32} (h : e < lv j) : FP e S (sA S 26 j r) := ⟨fun _ _ _ _ _ => rfl, fun _ _ _ => rfl, fun k i _ _ c => by rw [gA_sA, if_neg (fun q => c ⟨q.1, by rw [q.2]; exact h⟩)], fun _ _ => rfl⟩
theorem fp_fy {e j : Nat} {S T : MS} (h : e + 1 < lv j) (f : FY j S T) : FP e S T := ⟨fun k i g _ b => f.1 k i g (fun q => b ⟨q.1, by rw [q.2]; exact h⟩), f.2.1, fun k i _ b c => f.2.2 k i (fun q => by
  by_cases e6 : k = 26
  · exact c ⟨e6, by rw [q.2.2]; omega⟩
  · exact b ⟨q.1, by omega, by rw [q.2.2]; exact h⟩), fun t _ => by rw [f.2.2 13 0 (by omega)]⟩
theorem lv_yi {e : Nat} (h : e < 3) : lv (yi e) = e + 1 := by
  rcases (show e = 0 ∨ e = 1 ∨ e = 2 by omega) with rfl | rfl | rfl <;> rfl
theorem yi_lt {e : Nat} : yi e < 5 := by
  unfold yi
  split
  · decide
  · split <;> decide
theorem yrx_fp {e i : Nat} {S T : MS} {Y : Nat → Nat → Nat} (h : YrX S i Y) (f : FP e S T) (hi : lv i ≤ e + 1) : YrX T i Y := ⟨fun g hg k hk => by rw [f.2.2.1 (20 + g) i (by omega) (fun q => by have := q.2.2; omega) (fun q => by have := q.1; omega)]; exact h.1 g hg k hk, fun t ht => by rw [f.1 6 i (7 + t) (by omega) (fun q => by have := q.2; omega)]; exact h.2 t ht⟩
theorem fs_fp {S T : MS} (f : FP 0 S T) : Fs S T := by
  have hl : ∀ i, 0 + 1 < lv i → 2 ≤ i := by
    intro i h
    unfold lv at h
    by_cases h1 : i = 1
    · rw [if_pos h1] at h; omega
    · rw [if_neg h1] at h
      by_cases h3 : i = 3
      · omega
      · rw [if_neg h3] at h
        by_cases h4 : i = 4
        · omega
        · rw [if_neg h4] at h; omega
  refine ⟨fun k i g q => f.1 k i g (fun e => ?_) (fun e => ?_), fun k i g _ => f.2.1 k i g, fun k i q => f.2.2.1 k i (fun e => ?_) (fun e => ?_) (fun e => ?_)⟩
  · rw [e.1] at q; cases q
  · rw [e.1, cI_sc (hl i e.2)] at q; cases q
  · rcases e with e | e <;> rw [e] at q <;> cases q
  · rw [cA_sc e.1 (by omega) (hl i e.2.2)] at q; cases q
  · rw [e.1] at q; cases q
theorem bct_sub {s o : Nat} (hs : s < 32) (ho : o < 32) (h : s &&& (31 - o) = 0) : bct s ≤ bct o := by
  have := fin2 (p := fun s o => decide (s &&& (31 - o) = 0) = true → bct s ≤ bct o) (n := 32) (m := 32) (by decide +kernel) hs ho
  exact this (decide_eq_true h)
theorem fld_id {σ : Type} {F : Nat → σ → σ} {st : σ} : ∀ (n : Nat), (∀ s, s < n → F s st = st) → fld F n st = st := by
  intro n
  induction n with
  | zero => intro _; rfl
  | succ n ih =>
    intro h
    rw [fld, ih (fun s hs => h s (by omega)), h n (by omega)]
theorem fld_stay {σ : Type} {F : Nat → σ → σ} {st : σ} {s : Nat} : ∀ (m : Nat), (∀ t, s ≤ t → t < s + m → F t (fld F s st) = fld F s st) → fld F (s + m) st = fld F s st := by
  intro m
  induction m with
  | zero => intro _; rfl
  | succ m ih =>
    intro h
    rw [← Nat.add_assoc, fld, ih (fun t h1 h2 => h t h1 (by omega)), h _ (by omega) (by omega)]
/-- the state of the search -/
def HS (n : Nat) (st : Nat × (Nat → Nat)) (q : Nat → Nat) (e : Nat) (S : MS) : Prop := gI S 1 0 4 = tI st.1 ∧ (st.1 = 0 ∨ ∀ t, t < n → gA S 14 0 t = nI (st.2 t)) ∧ ∀ t, t < e → gA S 13 0 t = nI (q t)
def skF (k i : Nat) (Y : Nat → Nat → Nat) (q : Nat → Nat) (sum : Nat) (s : Nat) (st : Nat × (Nat → Nat)) : Nat × (Nat → Nat) := if okB Y s = true then sk k (i + 1) (psY Y s 0) (updN q i s) (sum + bct s) st else st
theorem sk_s {k i : Nat} {Y : Nat → Nat → Nat} {q : Nat → Nat} {sum : Nat} {st : Nat × (Nat → Nat)} : sk (k + 1) i Y q sum st = fld (skF k i Y q sum) 32 st := rfl
theorem yop_ps {Y : Nat → Nat → Nat} {s : Nat} : yop (psY Y s 0) = yop Y := by
  unfold yop
  rw [psY_sc.1, psY_sc.2.2.2.2]
section
variable {d B : Nat} {S : MS} {Y Y0 : Nat → Nat → Nat} {P : Option AV → MS → Prop}
theorem okB_bct (h5 : Y 6 0 ≤ 5) {s : Nat} (hs : s < 32) (h : okB Y s = true) : bct s ≤ bct (yop Y) :=
  bct_sub hs (yop_lt h5) (of_decide_eq_true (Bool.and_eq_true_iff.mp h).1)
/-- no row from here on can be better -/
theorem sk_no : ∀ (k i : Nat) (Y : Nat → Nat → Nat) (q : Nat → Nat) (sum : Nat) (st : Nat × (Nat → Nat)), Y 6 0 ≤ 5 → sum + k * bct (yop Y) < st.1 → sk k i Y q sum st = st := by
  intro k
  induction k with
  | zero =>
    intro i Y q sum st _ h
    rw [sk, if_neg (by omega)]
  | succ k ih =>
    intro i Y q sum st h5 h
    rw [sk_s]
    refine fld_id 32 (fun s hs => ?_)
    unfold skF
    split
    · rename_i hk
      have hb := okB_bct h5 hs hk
      rw [Nat.succ_mul] at h
      exact ih (i + 1) (psY Y s 0) _ _ st (by rw [psY_sc.1]; exact h5) (by rw [yop_ps]; omega)
    · rfl
theorem sk_le : ∀ (k i : Nat) (Y : Nat → Nat → Nat) (q : Nat → Nat) (sum M : Nat) (st : Nat × (Nat → Nat)), st.1 ≤ M → sum + 6 * k + 1 ≤ M → (sk k i Y q sum st).1 ≤ M := by
  intro k
  induction k with
  | zero =>
    intro i Y q sum M st h1 h2
    rw [sk]
    split
    · try dsimp only
      omega
    · exact h1
  | succ k ih =>
    intro i Y q sum M st h1 h2
    rw [sk_s]
    have : ∀ s, s ≤ 32 → (fld (skF k i Y q sum) s st).1 ≤ M := by
      intro s
      induction s with
      | zero => intro _; exact h1
      | succ s ihs =>
        intro hs
        rw [fld, skF]
        have hb := bct_lt (s := s) (by omega)
        split
        · exact ih _ _ _ _ _ _ (ihs (by omega)) (by omega)
        · exact ihs (by omega)
    exact this 32 (Nat.le_refl 32)
theorem l_note {n z : Nat} {q : Nat → Nat} {S0 : MS} (hn : n ≤ 3) (hq : ∀ t, t < n → gA S0 13 0 t = nI (q t)) (fin : ∀ g, (∀ t, t < n → g t = nI (q t)) → P none (sA S0 14 0 g)) : ∀ (m t : Nat) (g : Nat → Int32), t + m = n → (∀ i, i < t → g i = nI (q i)) → wpX d mX2_note 15 [aR 1 0, aI (nI n), aU, aI (nI t)] [] (sA S0 14 0 g) P := by
  intro m
  induction m with
  | zero =>
    intro t g ht h
    have e : t = n := by omega
    subst e
    refine s_X2_note_15 ?_
    simp (disch := omega) only [B_X2_note_15, wi_iload_n, wi_icmp_ge, wi_iconst, wi_aload_n, wi_getfield, fldv_1_3, fds_1_3, cnt_1, fldv_1_2, fds_1_2, wi_iaload, wi_iastore, wi_iinc, wi_goto, cnt_13, aTy_13, aLn_13, arr_13, cnt_14, aTy_14, aLn_14, arr_14, no0, no1, nz1, nz2, nz3, nz4, nz5, nz7, nz8, Classical.not_not, bz0, bz1, wi_nil, ld_0, ld_s, isIv_I, isLv_L, isRv_R, true_and, and_true, lset_0, lset_1, lset_s, avw_I, avw_L, avw_R, clr_cons, clr_nil, kst_0, kst_1, kstL_0, kstL_1, addk_I, pA_0, pA_s, pD_0, pD_s, wid_nil, wid_cons, rcv_c, putv_I, putv_L, List.length_cons, List.length_nil, List.set_cons_zero, List.set_cons_succ, not_false_eq_true, Nat.reduceMod, Nat.reduceDiv, Nat.reduceEqDiff, Nat.reduceLT, Nat.reduceLeDiff, Nat.reduceAdd, Nat.reduceSub, reduceIte, Nat.lt_irrefl, Nat.zero_ne_one, Nat.one_ne_zero, Nat.zero_add, List.nil_append, List.cons_append, Option.toList_some, Option.toList_none, forall_const, false_implies, true_implies, false_or, or_false, true_or, or_true, i_le, i_lt, i_eq, i_eq0, i_lt0, i_0le, i_0lt, i_le0, i_in1, i_cl, nI_add, pk_mul, pk_sub, i_div, i_rem, i_sh1, i_bit, i_or, i_and, i_andn, nt_le, nf_le, nt_lt, nf_lt, nt_eq, nf_eq, not_true_eq_false, and_self, and_false, false_and, eq_self, Bool.toNat_true, Bool.toNat_false, i_bool, i_bool1, Bool.false_eq_true, Bool.true_eq_false, reduceCtorEq, i_neg1, i_neg2, i_neg3, i_neg4, i_neg5, i_neg6, i_neg7, i_neg8, i_neg9, i_nega, i_negb, i_negc, i_max2, i_min2]
    try simp (disch := omega) only [no0, no1, nz1, nz2, nz3, nz4, nz5, nz7, nz8, Classical.not_not, bz0, bz1, wi_nil, ld_0, ld_s, isIv_I, isLv_L, isRv_R, true_and, and_true, lset_0, lset_1, lset_s, avw_I, avw_L, avw_R, clr_cons, clr_nil, kst_0, kst_1, kstL_0, kstL_1, addk_I, pA_0, pA_s, pD_0, pD_s, wid_nil, wid_cons, rcv_c, putv_I, putv_L, List.length_cons, List.length_nil, List.set_cons_zero, List.set_cons_succ, not_false_eq_true, Nat.reduceMod, Nat.reduceDiv, Nat.reduceEqDiff, Nat.reduceLT, Nat.reduceLeDiff, Nat.reduceAdd, Nat.reduceSub, reduceIte, Nat.lt_irrefl, Nat.zero_ne_one, Nat.one_ne_zero, Nat.zero_add, List.nil_append, List.cons_append, Option.toList_some, Option.toList_none, forall_const, false_implies, true_implies, false_or, or_false, true_or, or_true, i_le, i_lt, i_eq, i_eq0, i_lt0, i_0le, i_0lt, i_le0, i_in1, i_cl, nI_add, pk_mul, pk_sub, i_div, i_rem, i_sh1, i_bit, i_or, i_and, i_andn, nt_le, nf_le, nt_lt, nf_lt, nt_eq, nf_eq, not_true_eq_false, and_self, and_false, false_and, eq_self, Bool.toNat_true, Bool.toNat_false, i_bool, i_bool1, Bool.false_eq_true, Bool.true_eq_false, reduceCtorEq, i_neg1, i_neg2, i_neg3, i_neg4, i_neg5, i_neg6, i_neg7, i_neg8, i_neg9, i_nega, i_negb, i_negc, i_max2, i_min2, wi_nil]
    repeat (
      first
      | refine s_X2_note_0 ?_
      | refine s_X2_note_43 ?_
      simp (disch := omega) only [B_X2_note_0, wi_iload_n, wi_aload_n, wi_getfield, fldv_1_4, fds_1_4, cnt_1, wi_icmp_le, wi_putfield, pOk_1_4, wi_iconst, wi_istore_n, B_X2_note_15, wi_icmp_ge, fldv_1_3, fds_1_3, fldv_1_2, fds_1_2, wi_iaload, wi_iastore, wi_iinc, wi_goto, cnt_13, aTy_13, aLn_13, arr_13, cnt_14, aTy_14, aLn_14, arr_14, B_X2_note_43, wi_return_, no0, no1, nz1, nz2, nz3, nz4, nz5, nz7, nz8, Classical.not_not, bz0, bz1, wi_nil, ld_0, ld_s, isIv_I, isLv_L, isRv_R, true_and, and_true, lset_0, lset_1, lset_s, avw_I, avw_L, avw_R, clr_cons, clr_nil, kst_0, kst_1, kstL_0, kstL_1, addk_I, pA_0, pA_s, pD_0, pD_s, wid_nil, wid_cons, rcv_c, putv_I, putv_L, List.length_cons, List.length_nil, List.set_cons_zero, List.set_cons_succ, not_false_eq_true, Nat.reduceMod, Nat.reduceDiv, Nat.reduceEqDiff, Nat.reduceLT, Nat.reduceLeDiff, Nat.reduceAdd, Nat.reduceSub, reduceIte, Nat.lt_irrefl, Nat.zero_ne_one, Nat.one_ne_zero, Nat.zero_add, List.nil_append, List.cons_append, Option.toList_some, Option.toList_none, forall_const, false_implies, true_implies, false_or, or_false, true_or, or_true, i_le, i_lt, i_eq, i_eq0, i_lt0, i_0le, i_0lt, i_le0, i_in1, i_cl, nI_add, pk_mul, pk_sub, i_div, i_rem, i_sh1, i_bit, i_or, i_and, i_andn, nt_le, nf_le, nt_lt, nf_lt, nt_eq, nf_eq, not_true_eq_false, and_self, and_false, false_and, eq_self, Bool.toNat_true, Bool.toNat_false, i_bool, i_bool1, Bool.false_eq_true, Bool.true_eq_false, reduceCtorEq, i_neg1, i_neg2, i_neg3, i_neg4, i_neg5, i_neg6, i_neg7, i_neg8, i_neg9, i_nega, i_negb, i_negc, i_max2, i_min2])
    exact fin g h
  | succ m ih =>
    intro t g ht h
    have h13 : gA (sA S0 14 0 g) 13 0 t = nI (q t) := hq t (by omega)
    refine s_X2_note_15 ?_
    simp (disch := omega) only [B_X2_note_15, wi_iload_n, wi_icmp_ge, wi_iconst, wi_aload_n, wi_getfield, fldv_1_3, fds_1_3, cnt_1, fldv_1_2, fds_1_2, wi_iaload, wi_iastore, wi_iinc, wi_goto, cnt_13, aTy_13, aLn_13, arr_13, cnt_14, aTy_14, aLn_14, arr_14, no0, no1, nz1, nz2, nz3, nz4, nz5, nz7, nz8, Classical.not_not, bz0, bz1, wi_nil, ld_0, ld_s, isIv_I, isLv_L, isRv_R, true_and, and_true, lset_0, lset_1, lset_s, avw_I, avw_L, avw_R, clr_cons, clr_nil, kst_0, kst_1, kstL_0, kstL_1, addk_I, pA_0, pA_s, pD_0, pD_s, wid_nil, wid_cons, rcv_c, putv_I, putv_L, List.length_cons, List.length_nil, List.set_cons_zero, List.set_cons_succ, not_false_eq_true, Nat.reduceMod, Nat.reduceDiv, Nat.reduceEqDiff, Nat.reduceLT, Nat.reduceLeDiff, Nat.reduceAdd, Nat.reduceSub, reduceIte, Nat.lt_irrefl, Nat.zero_ne_one, Nat.one_ne_zero, Nat.zero_add, List.nil_append, List.cons_append, Option.toList_some, Option.toList_none, forall_const, false_implies, true_implies, false_or, or_false, true_or, or_true, i_le, i_lt, i_eq, i_eq0, i_lt0, i_0le, i_0lt, i_le0, i_in1, i_cl, nI_add, pk_mul, pk_sub, i_div, i_rem, i_sh1, i_bit, i_or, i_and, i_andn, nt_le, nf_le, nt_lt, nf_lt, nt_eq, nf_eq, not_true_eq_false, and_self, and_false, false_and, eq_self, Bool.toNat_true, Bool.toNat_false, i_bool, i_bool1, Bool.false_eq_true, Bool.true_eq_false, reduceCtorEq, i_neg1, i_neg2, i_neg3, i_neg4, i_neg5, i_neg6, i_neg7, i_neg8, i_neg9, i_nega, i_negb, i_negc, i_max2, i_min2, h13]
    rw [gA_same, sA_sA]
    refine ih (t + 1) _ (by omega) (fun i hi => ?_)
    by_cases e : i = t
    · subst e; rw [pk_us]
    · rw [pk_un e]; exact h i (by omega)
theorem c_note {n e sum : Nat} {q : Nat → Nat} {st : Nat × (Nat → Nat)} (hn : n ≤ 3) (hs : sum < 1000) (hst : st.1 < 1000) (h : HS n st q n S) (fin : ∀ S2, HS n (sk 0 e Y q sum st) q n S2 → FP n S S2 → P none S2) : wpM (d + 1) mX2_note [aR 1 0, aI (nI n), aI (nI sum)] S P := by
  obtain ⟨h1, h2, h3⟩ := id h
  rw [sk] at fin
  by_cases c : st.1 ≤ sum
  · rw [if_pos c] at fin
    have key : wpX d mX2_note 15 [aR 1 0, aI (nI n), aU, aI (nI 0)] [] (sA (sI S 1 0 4 (nI sum)) 14 0 (gA S 14 0)) P := by
      refine l_note (S0 := sI S 1 0 4 (nI sum)) (n := n) (z := 0) (q := q) hn (fun t ht => h3 t ht) (fun g hg => ?_) n 0 (gA S 14 0) (by omega) (fun i hi => absurd hi (Nat.not_lt_zero i))
      exact fin _ ⟨tI_s.symm, Or.inr (fun t ht => by rw [gA_same]; exact hg t ht), fun t ht => h3 t ht⟩ (fp_most.trans fp_14)
    have e1 : sA (sI S 1 0 4 (nI sum)) 14 0 (gA S 14 0) = sI S 1 0 4 (nI sum) := sA_self (sI S 1 0 4 (nI sum)) 14 0
    rw [e1] at key
    obtain ⟨a, b⟩ := st
    cases a with
    | zero =>
      have h1 : gI S 1 0 4 = -nI 1 := h1
      refine x_entry (ls2 := [aR 1 0, aI (nI n), aI (nI sum), aU]) (Nat.le_of_ble_eq_true rfl) pl_2 rfl (Nat.le_of_ble_eq_true rfl) ?_
      try simp (disch := omega) only [no0, no1, nz1, nz2, nz3, nz4, nz5, nz7, nz8, Classical.not_not, bz0, bz1, wi_nil, ld_0, ld_s, isIv_I, isLv_L, isRv_R, true_and, and_true, lset_0, lset_1, lset_s, avw_I, avw_L, avw_R, clr_cons, clr_nil, kst_0, kst_1, kstL_0, kstL_1, addk_I, pA_0, pA_s, pD_0, pD_s, wid_nil, wid_cons, rcv_c, putv_I, putv_L, List.length_cons, List.length_nil, List.set_cons_zero, List.set_cons_succ, not_false_eq_true, Nat.reduceMod, Nat.reduceDiv, Nat.reduceEqDiff, Nat.reduceLT, Nat.reduceLeDiff, Nat.reduceAdd, Nat.reduceSub, reduceIte, Nat.lt_irrefl, Nat.zero_ne_one, Nat.one_ne_zero, Nat.zero_add, List.nil_append, List.cons_append, Option.toList_some, Option.toList_none, forall_const, false_implies, true_implies, false_or, or_false, true_or, or_true, i_le, i_lt, i_eq, i_eq0, i_lt0, i_0le, i_0lt, i_le0, i_in1, i_cl, nI_add, pk_mul, pk_sub, i_div, i_rem, i_sh1, i_bit, i_or, i_and, i_andn, nt_le, nf_le, nt_lt, nf_lt, nt_eq, nf_eq, not_true_eq_false, and_self, and_false, false_and, eq_self, Bool.toNat_true, Bool.toNat_false, i_bool, i_bool1, Bool.false_eq_true, Bool.true_eq_false, reduceCtorEq, i_neg1, i_neg2, i_neg3, i_neg4, i_neg5, i_neg6, i_neg7, i_neg8, i_neg9, i_nega, i_negb, i_negc, i_max2, i_min2, h1, wi_nil]
      repeat (
        first
        | refine s_X2_note_0 ?_
        | refine s_X2_note_43 ?_
        simp (disch := omega) only [B_X2_note_0, wi_iload_n, wi_aload_n, wi_getfield, fldv_1_4, fds_1_4, cnt_1, wi_icmp_le, wi_putfield, pOk_1_4, wi_iconst, wi_istore_n, B_X2_note_15, wi_icmp_ge, fldv_1_3, fds_1_3, fldv_1_2, fds_1_2, wi_iaload, wi_iastore, wi_iinc, wi_goto, cnt_13, aTy_13, aLn_13, arr_13, cnt_14, aTy_14, aLn_14, arr_14, B_X2_note_43, wi_return_, no0, no1, nz1, nz2, nz3, nz4, nz5, nz7, nz8, Classical.not_not, bz0, bz1, wi_nil, ld_0, ld_s, isIv_I, isLv_L, isRv_R, true_and, and_true, lset_0, lset_1, lset_s, avw_I, avw_L, avw_R, clr_cons, clr_nil, kst_0, kst_1, kstL_0, kstL_1, addk_I, pA_0, pA_s, pD_0, pD_s, wid_nil, wid_cons, rcv_c, putv_I, putv_L, List.length_cons, List.length_nil, List.set_cons_zero, List.set_cons_succ, not_false_eq_true, Nat.reduceMod, Nat.reduceDiv, Nat.reduceEqDiff, Nat.reduceLT, Nat.reduceLeDiff, Nat.reduceAdd, Nat.reduceSub, reduceIte, Nat.lt_irrefl, Nat.zero_ne_one, Nat.one_ne_zero, Nat.zero_add, List.nil_append, List.cons_append, Option.toList_some, Option.toList_none, forall_const, false_implies, true_implies, false_or, or_false, true_or, or_true, i_le, i_lt, i_eq, i_eq0, i_lt0, i_0le, i_0lt, i_le0, i_in1, i_cl, nI_add, pk_mul, pk_sub, i_div, i_rem, i_sh1, i_bit, i_or, i_and, i_andn, nt_le, nf_le, nt_lt, nf_lt, nt_eq, nf_eq, not_true_eq_false, and_self, and_false, false_and, eq_self, Bool.toNat_true, Bool.toNat_false, i_bool, i_bool1, Bool.false_eq_true, Bool.true_eq_false, reduceCtorEq, i_neg1, i_neg2, i_neg3, i_neg4, i_neg5, i_neg6, i_neg7, i_neg8, i_neg9, i_nega, i_negb, i_negc, i_max2, i_min2, h1])
      exact key
    | succ a =>
      have h1 : gI S 1 0 4 = nI a := h1.trans tI_s
      have c : a + 1 ≤ sum := c
      refine x_entry (ls2 := [aR 1 0, aI (nI n), aI (nI sum), aU]) (Nat.le_of_ble_eq_true rfl) pl_2 rfl (Nat.le_of_ble_eq_true rfl) ?_
      try simp (disch := omega) only [no0, no1, nz1, nz2, nz3, nz4, nz5, nz7, nz8, Classical.not_not, bz0, bz1, wi_nil, ld_0, ld_s, isIv_I, isLv_L, isRv_R, true_and, and_true, lset_0, lset_1, lset_s, avw_I, avw_L, avw_R, clr_cons, clr_nil, kst_0, kst_1, kstL_0, kstL_1, addk_I, pA_0, pA_s, pD_0, pD_s, wid_nil, wid_cons, rcv_c, putv_I, putv_L, List.length_cons, List.length_nil, List.set_cons_zero, List.set_cons_succ, not_false_eq_true, Nat.reduceMod, Nat.reduceDiv, Nat.reduceEqDiff, Nat.reduceLT, Nat.reduceLeDiff, Nat.reduceAdd, Nat.reduceSub, reduceIte, Nat.lt_irrefl, Nat.zero_ne_one, Nat.one_ne_zero, Nat.zero_add, List.nil_append, List.cons_append, Option.toList_some, Option.toList_none, forall_const, false_implies, true_implies, false_or, or_false, true_or, or_true, i_le, i_lt, i_eq, i_eq0, i_lt0, i_0le, i_0lt, i_le0, i_in1, i_cl, nI_add, pk_mul, pk_sub, i_div, i_rem, i_sh1, i_bit, i_or, i_and, i_andn, nt_le, nf_le, nt_lt, nf_lt, nt_eq, nf_eq, not_true_eq_false, and_self, and_false, false_and, eq_self, Bool.toNat_true, Bool.toNat_false, i_bool, i_bool1, Bool.false_eq_true, Bool.true_eq_false, reduceCtorEq, i_neg1, i_neg2, i_neg3, i_neg4, i_neg5, i_neg6, i_neg7, i_neg8, i_neg9, i_nega, i_negb, i_negc, i_max2, i_min2, h1, wi_nil]
      repeat (
        first
        | refine s_X2_note_0 ?_
        | refine s_X2_note_43 ?_
        simp (disch := omega) only [B_X2_note_0, wi_iload_n, wi_aload_n, wi_getfield, fldv_1_4, fds_1_4, cnt_1, wi_icmp_le, wi_putfield, pOk_1_4, wi_iconst, wi_istore_n, B_X2_note_15, wi_icmp_ge, fldv_1_3, fds_1_3, fldv_1_2, fds_1_2, wi_iaload, wi_iastore, wi_iinc, wi_goto, cnt_13, aTy_13, aLn_13, arr_13, cnt_14, aTy_14, aLn_14, arr_14, B_X2_note_43, wi_return_, no0, no1, nz1, nz2, nz3, nz4, nz5, nz7, nz8, Classical.not_not, bz0, bz1, wi_nil, ld_0, ld_s, isIv_I, isLv_L, isRv_R, true_and, and_true, lset_0, lset_1, lset_s, avw_I, avw_L, avw_R, clr_cons, clr_nil, kst_0, kst_1, kstL_0, kstL_1, addk_I, pA_0, pA_s, pD_0, pD_s, wid_nil, wid_cons, rcv_c, putv_I, putv_L, List.length_cons, List.length_nil, List.set_cons_zero, List.set_cons_succ, not_false_eq_true, Nat.reduceMod, Nat.reduceDiv, Nat.reduceEqDiff, Nat.reduceLT, Nat.reduceLeDiff, Nat.reduceAdd, Nat.reduceSub, reduceIte, Nat.lt_irrefl, Nat.zero_ne_one, Nat.one_ne_zero, Nat.zero_add, List.nil_append, List.cons_append, Option.toList_some, Option.toList_none, forall_const, false_implies, true_implies, false_or, or_false, true_or, or_true, i_le, i_lt, i_eq, i_eq0, i_lt0, i_0le, i_0lt, i_le0, i_in1, i_cl, nI_add, pk_mul, pk_sub, i_div, i_rem, i_sh1, i_bit, i_or, i_and, i_andn, nt_le, nf_le, nt_lt, nf_lt, nt_eq, nf_eq, not_true_eq_false, and_self, and_false, false_and, eq_self, Bool.toNat_true, Bool.toNat_false, i_bool, i_bool1, Bool.false_eq_true, Bool.true_eq_false, reduceCtorEq, i_neg1, i_neg2, i_neg3, i_neg4, i_neg5, i_neg6, i_neg7, i_neg8, i_neg9, i_nega, i_negb, i_negc, i_max2, i_min2, h1])
      exact key
  · rw [if_neg c] at fin
    obtain ⟨a, b⟩ := st
    cases a with
    | zero => exact absurd (Nat.zero_le sum) c
    | succ a =>
      have h1 : gI S 1 0 4 = nI a := h1.trans tI_s
      have c : ¬ a + 1 ≤ sum := c
      have hst : a + 1 < 1000 := hst
      refine x_entry (ls2 := [aR 1 0, aI (nI n), aI (nI sum), aU]) (Nat.le_of_ble_eq_true rfl) pl_2 rfl (Nat.le_of_ble_eq_true rfl) ?_
      try simp (disch := omega) only [no0, no1, nz1, nz2, nz3, nz4, nz5, nz7, nz8, Classical.not_not, bz0, bz1, wi_nil, ld_0, ld_s, isIv_I, isLv_L, isRv_R, true_and, and_true, lset_0, lset_1, lset_s, avw_I, avw_L, avw_R, clr_cons, clr_nil, kst_0, kst_1, kstL_0, kstL_1, addk_I, pA_0, pA_s, pD_0, pD_s, wid_nil, wid_cons, rcv_c, putv_I, putv_L, List.length_cons, List.length_nil, List.set_cons_zero, List.set_cons_succ, not_false_eq_true, Nat.reduceMod, Nat.reduceDiv, Nat.reduceEqDiff, Nat.reduceLT, Nat.reduceLeDiff, Nat.reduceAdd, Nat.reduceSub, reduceIte, Nat.lt_irrefl, Nat.zero_ne_one, Nat.one_ne_zero, Nat.zero_add, List.nil_append, List.cons_append, Option.toList_some, Option.toList_none, forall_const, false_implies, true_implies, false_or, or_false, true_or, or_true, i_le, i_lt, i_eq, i_eq0, i_lt0, i_0le, i_0lt, i_le0, i_in1, i_cl, nI_add, pk_mul, pk_sub, i_div, i_rem, i_sh1, i_bit, i_or, i_and, i_andn, nt_le, nf_le, nt_lt, nf_lt, nt_eq, nf_eq, not_true_eq_false, and_self, and_false, false_and, eq_self, Bool.toNat_true, Bool.toNat_false, i_bool, i_bool1, Bool.false_eq_true, Bool.true_eq_false, reduceCtorEq, i_neg1, i_neg2, i_neg3, i_neg4, i_neg5, i_neg6, i_neg7, i_neg8, i_neg9, i_nega, i_negb, i_negc, i_max2, i_min2, h1, wi_nil]
      repeat (
        first
        | refine s_X2_note_0 ?_
        | refine s_X2_note_43 ?_
        simp (disch := omega) only [B_X2_note_0, wi_iload_n, wi_aload_n, wi_getfield, fldv_1_4, fds_1_4, cnt_1, wi_icmp_le, wi_putfield, pOk_1_4, wi_iconst, wi_istore_n, B_X2_note_15, wi_icmp_ge, fldv_1_3, fds_1_3, fldv_1_2, fds_1_2, wi_iaload, wi_iastore, wi_iinc, wi_goto, cnt_13, aTy_13, aLn_13, arr_13, cnt_14, aTy_14, aLn_14, arr_14, B_X2_note_43, wi_return_, no0, no1, nz1, nz2, nz3, nz4, nz5, nz7, nz8, Classical.not_not, bz0, bz1, wi_nil, ld_0, ld_s, isIv_I, isLv_L, isRv_R, true_and, and_true, lset_0, lset_1, lset_s, avw_I, avw_L, avw_R, clr_cons, clr_nil, kst_0, kst_1, kstL_0, kstL_1, addk_I, pA_0, pA_s, pD_0, pD_s, wid_nil, wid_cons, rcv_c, putv_I, putv_L, List.length_cons, List.length_nil, List.set_cons_zero, List.set_cons_succ, not_false_eq_true, Nat.reduceMod, Nat.reduceDiv, Nat.reduceEqDiff, Nat.reduceLT, Nat.reduceLeDiff, Nat.reduceAdd, Nat.reduceSub, reduceIte, Nat.lt_irrefl, Nat.zero_ne_one, Nat.one_ne_zero, Nat.zero_add, List.nil_append, List.cons_append, Option.toList_some, Option.toList_none, forall_const, false_implies, true_implies, false_or, or_false, true_or, or_true, i_le, i_lt, i_eq, i_eq0, i_lt0, i_0le, i_0lt, i_le0, i_in1, i_cl, nI_add, pk_mul, pk_sub, i_div, i_rem, i_sh1, i_bit, i_or, i_and, i_andn, nt_le, nf_le, nt_lt, nf_lt, nt_eq, nf_eq, not_true_eq_false, and_self, and_false, false_and, eq_self, Bool.toNat_true, Bool.toNat_false, i_bool, i_bool1, Bool.false_eq_true, Bool.true_eq_false, reduceCtorEq, i_neg1, i_neg2, i_neg3, i_neg4, i_neg5, i_neg6, i_neg7, i_neg8, i_neg9, i_nega, i_negb, i_negc, i_max2, i_min2, h1])
      exact fin S h FP.refl
theorem c_behind {n e s : Nat} (hn : n ≤ 3) (he : e < n) (hs : s < 32) (hy : YrX S (yi e) Y) (ho : YOk (40 + e) Y) (q1 : e + 1 = n → P (some (aR 6 (yi e))) S) (q2 : e + 1 < n → ∀ S2, YrX S2 (yi (e + 1)) (psY Y s 0) → FY (yi (e + 1)) S S2 → P (some (aR 6 (yi (e + 1)))) S2) : wpM (d + 4) mX2_behind [aR 1 0, aR 6 (yi e), aI (nI e), aI (nI n), aI (nI s)] S P := by
  by_cases c : e + 1 = n
  · have q := q1 c
    subst c
    refine x_entry (ls2 := [aR 1 0, aR 6 (yi e), aI (nI e), aI (nI (e + 1)), aI (nI s), aU]) (Nat.le_of_ble_eq_true rfl) pl_2 rfl (Nat.le_of_ble_eq_true rfl) ?_
    try simp (disch := omega) only [no0, no1, nz1, nz2, nz3, nz4, nz5, nz7, nz8, Classical.not_not, bz0, bz1, wi_nil, ld_0, ld_s, isIv_I, isLv_L, isRv_R, true_and, and_true, lset_0, lset_1, lset_s, avw_I, avw_L, avw_R, clr_cons, clr_nil, kst_0, kst_1, kstL_0, kstL_1, addk_I, pA_0, pA_s, pD_0, pD_s, wid_nil, wid_cons, rcv_c, putv_I, putv_L, List.length_cons, List.length_nil, List.set_cons_zero, List.set_cons_succ, not_false_eq_true, Nat.reduceMod, Nat.reduceDiv, Nat.reduceEqDiff, Nat.reduceLT, Nat.reduceLeDiff, Nat.reduceAdd, Nat.reduceSub, reduceIte, Nat.lt_irrefl, Nat.zero_ne_one, Nat.one_ne_zero, Nat.zero_add, List.nil_append, List.cons_append, Option.toList_some, Option.toList_none, forall_const, false_implies, true_implies, false_or, or_false, true_or, or_true, i_le, i_lt, i_eq, i_eq0, i_lt0, i_0le, i_0lt, i_le0, i_in1, i_cl, nI_add, pk_mul, pk_sub, i_div, i_rem, i_sh1, i_bit, i_or, i_and, i_andn, nt_le, nf_le, nt_lt, nf_lt, nt_eq, nf_eq, not_true_eq_false, and_self, and_false, false_and, eq_self, Bool.toNat_true, Bool.toNat_false, i_bool, i_bool1, Bool.false_eq_true, Bool.true_eq_false, reduceCtorEq, i_neg1, i_neg2, i_neg3, i_neg4, i_neg5, i_neg6, i_neg7, i_neg8, i_neg9, i_nega, i_negb, i_negc, i_max2, i_min2, wi_nil]
    repeat (
      first
      | refine s_X2_behind_0 ?_
      | refine s_X2_behind_9 ?_
      | refine s_X2_behind_20 ?_
      | refine s_X2_behind_24 ?_
      | refine s_X2_behind_32 ?_
      | refine s_X2_behind_40 ?_
      simp (disch := omega) only [B_X2_behind_0, wi_iload_n, wi_iconst, wi_iadd, wi_icmp_lt, wi_aload_n, wi_areturn, B_X2_behind_9, wi_if_ne, wi_getfield, fldv_1_0, fds_1_0, cnt_1, wi_goto, B_X2_behind_20, fldv_1_1, fds_1_1, B_X2_behind_24, wi_astore, wi_aload, wi_invokevirtual, cnt_6, B_X2_behind_32, wi_iload, B_X2_behind_40, no0, no1, nz1, nz2, nz3, nz4, nz5, nz7, nz8, Classical.not_not, bz0, bz1, wi_nil, ld_0, ld_s, isIv_I, isLv_L, isRv_R, true_and, and_true, lset_0, lset_1, lset_s, avw_I, avw_L, avw_R, clr_cons, clr_nil, kst_0, kst_1, kstL_0, kstL_1, addk_I, pA_0, pA_s, pD_0, pD_s, wid_nil, wid_cons, rcv_c, putv_I, putv_L, List.length_cons, List.length_nil, List.set_cons_zero, List.set_cons_succ, not_false_eq_true, Nat.reduceMod, Nat.reduceDiv, Nat.reduceEqDiff, Nat.reduceLT, Nat.reduceLeDiff, Nat.reduceAdd, Nat.reduceSub, reduceIte, Nat.lt_irrefl, Nat.zero_ne_one, Nat.one_ne_zero, Nat.zero_add, List.nil_append, List.cons_append, Option.toList_some, Option.toList_none, forall_const, false_implies, true_implies, false_or, or_false, true_or, or_true, i_le, i_lt, i_eq, i_eq0, i_lt0, i_0le, i_0lt, i_le0, i_in1, i_cl, nI_add, pk_mul, pk_sub, i_div, i_rem, i_sh1, i_bit, i_or, i_and, i_andn, nt_le, nf_le, nt_lt, nf_lt, nt_eq, nf_eq, not_true_eq_false, and_self, and_false, false_and, eq_self, Bool.toNat_true, Bool.toNat_false, i_bool, i_bool1, Bool.false_eq_true, Bool.true_eq_false, reduceCtorEq, i_neg1, i_neg2, i_neg3, i_neg4, i_neg5, i_neg6, i_neg7, i_neg8, i_neg9, i_nega, i_negb, i_negc, i_max2, i_min2])
    exact q
  · have q := q2 (by omega)
    rcases (show e = 0 ∨ e = 1 by omega) with rfl | rfl
    · refine x_entry (ls2 := [aR 1 0, aR 6 (yi 0), aI (nI 0), aI (nI n), aI (nI s), aU]) (Nat.le_of_ble_eq_true rfl) pl_2 rfl (Nat.le_of_ble_eq_true rfl) ?_
      try simp (disch := omega) only [no0, no1, nz1, nz2, nz3, nz4, nz5, nz7, nz8, Classical.not_not, bz0, bz1, wi_nil, ld_0, ld_s, isIv_I, isLv_L, isRv_R, true_and, and_true, lset_0, lset_1, lset_s, avw_I, avw_L, avw_R, clr_cons, clr_nil, kst_0, kst_1, kstL_0, kstL_1, addk_I, pA_0, pA_s, pD_0, pD_s, wid_nil, wid_cons, rcv_c, putv_I, putv_L, List.length_cons, List.length_nil, List.set_cons_zero, List.set_cons_succ, not_false_eq_true, Nat.reduceMod, Nat.reduceDiv, Nat.reduceEqDiff, Nat.reduceLT, Nat.reduceLeDiff, Nat.reduceAdd, Nat.reduceSub, reduceIte, Nat.lt_irrefl, Nat.zero_ne_one, Nat.one_ne_zero, Nat.zero_add, List.nil_append, List.cons_append, Option.toList_some, Option.toList_none, forall_const, false_implies, true_implies, false_or, or_false, true_or, or_true, i_le, i_lt, i_eq, i_eq0, i_lt0, i_0le, i_0lt, i_le0, i_in1, i_cl, nI_add, pk_mul, pk_sub, i_div, i_rem, i_sh1, i_bit, i_or, i_and, i_andn, nt_le, nf_le, nt_lt, nf_lt, nt_eq, nf_eq, not_true_eq_false, and_self, and_false, false_and, eq_self, Bool.toNat_true, Bool.toNat_false, i_bool, i_bool1, Bool.false_eq_true, Bool.true_eq_false, reduceCtorEq, i_neg1, i_neg2, i_neg3, i_neg4, i_neg5, i_neg6, i_neg7, i_neg8, i_neg9, i_nega, i_negb, i_negc, i_max2, i_min2, wi_nil]
      repeat (
        first
        | refine s_X2_behind_0 ?_
        | refine s_X2_behind_9 ?_
        | refine s_X2_behind_20 ?_
        | refine s_X2_behind_24 ?_
        | refine s_X2_behind_32 ?_
        | refine s_X2_behind_40 ?_
        simp (disch := omega) only [B_X2_behind_0, wi_iload_n, wi_iconst, wi_iadd, wi_icmp_lt, wi_aload_n, wi_areturn, B_X2_behind_9, wi_if_ne, wi_getfield, fldv_1_0, fds_1_0, cnt_1, wi_goto, B_X2_behind_20, fldv_1_1, fds_1_1, B_X2_behind_24, wi_astore, wi_aload, wi_invokevirtual, cnt_6, B_X2_behind_32, wi_iload, B_X2_behind_40, no0, no1, nz1, nz2, nz3, nz4, nz5, nz7, nz8, Classical.not_not, bz0, bz1, wi_nil, ld_0, ld_s, isIv_I, isLv_L, isRv_R, true_and, and_true, lset_0, lset_1, lset_s, avw_I, avw_L, avw_R, clr_cons, clr_nil, kst_0, kst_1, kstL_0, kstL_1, addk_I, pA_0, pA_s, pD_0, pD_s, wid_nil, wid_cons, rcv_c, putv_I, putv_L, List.length_cons, List.length_nil, List.set_cons_zero, List.set_cons_succ, not_false_eq_true, Nat.reduceMod, Nat.reduceDiv, Nat.reduceEqDiff, Nat.reduceLT, Nat.reduceLeDiff, Nat.reduceAdd, Nat.reduceSub, reduceIte, Nat.lt_irrefl, Nat.zero_ne_one, Nat.one_ne_zero, Nat.zero_add, List.nil_append, List.cons_append, Option.toList_some, Option.toList_none, forall_const, false_implies, true_implies, false_or, or_false, true_or, or_true, i_le, i_lt, i_eq, i_eq0, i_lt0, i_0le, i_0lt, i_le0, i_in1, i_cl, nI_add, pk_mul, pk_sub, i_div, i_rem, i_sh1, i_bit, i_or, i_and, i_andn, nt_le, nf_le, nt_lt, nf_lt, nt_eq, nf_eq, not_true_eq_false, and_self, and_false, false_and, eq_self, Bool.toNat_true, Bool.toNat_false, i_bool, i_bool1, Bool.false_eq_true, Bool.true_eq_false, reduceCtorEq, i_neg1, i_neg2, i_neg3, i_neg4, i_neg5, i_neg6, i_neg7, i_neg8, i_neg9, i_nega, i_negb, i_negc, i_max2, i_min2])
      refine c_become (i := 1) (j := 3) (by decide) (by decide) (by decide) hy (fun S2 y2 f2 => ?_)
      try simp (disch := omega) only [no0, no1, nz1, nz2, nz3, nz4, nz5, nz7, nz8, Classical.not_not, bz0, bz1, wi_nil, ld_0, ld_s, isIv_I, isLv_L, isRv_R, true_and, and_true, lset_0, lset_1, lset_s, avw_I, avw_L, avw_R, clr_cons, clr_nil, kst_0, kst_1, kstL_0, kstL_1, addk_I, pA_0, pA_s, pD_0, pD_s, wid_nil, wid_cons, rcv_c, putv_I, putv_L, List.length_cons, List.length_nil, List.set_cons_zero, List.set_cons_succ, not_false_eq_true, Nat.reduceMod, Nat.reduceDiv, Nat.reduceEqDiff, Nat.reduceLT, Nat.reduceLeDiff, Nat.reduceAdd, Nat.reduceSub, reduceIte, Nat.lt_irrefl, Nat.zero_ne_one, Nat.one_ne_zero, Nat.zero_add, List.nil_append, List.cons_append, Option.toList_some, Option.toList_none, forall_const, false_implies, true_implies, false_or, or_false, true_or, or_true, i_le, i_lt, i_eq, i_eq0, i_lt0, i_0le, i_0lt, i_le0, i_in1, i_cl, nI_add, pk_mul, pk_sub, i_div, i_rem, i_sh1, i_bit, i_or, i_and, i_andn, nt_le, nf_le, nt_lt, nf_lt, nt_eq, nf_eq, not_true_eq_false, and_self, and_false, false_and, eq_self, Bool.toNat_true, Bool.toNat_false, i_bool, i_bool1, Bool.false_eq_true, Bool.true_eq_false, reduceCtorEq, i_neg1, i_neg2, i_neg3, i_neg4, i_neg5, i_neg6, i_neg7, i_neg8, i_neg9, i_nega, i_negb, i_negc, i_max2, i_min2, wi_nil]
      repeat (
        first
        | refine s_X2_behind_0 ?_
        | refine s_X2_behind_9 ?_
        | refine s_X2_behind_20 ?_
        | refine s_X2_behind_24 ?_
        | refine s_X2_behind_32 ?_
        | refine s_X2_behind_40 ?_
        simp (disch := omega) only [B_X2_behind_0, wi_iload_n, wi_iconst, wi_iadd, wi_icmp_lt, wi_aload_n, wi_areturn, B_X2_behind_9, wi_if_ne, wi_getfield, fldv_1_0, fds_1_0, cnt_1, wi_goto, B_X2_behind_20, fldv_1_1, fds_1_1, B_X2_behind_24, wi_astore, wi_aload, wi_invokevirtual, cnt_6, B_X2_behind_32, wi_iload, B_X2_behind_40, no0, no1, nz1, nz2, nz3, nz4, nz5, nz7, nz8, Classical.not_not, bz0, bz1, wi_nil, ld_0, ld_s, isIv_I, isLv_L, isRv_R, true_and, and_true, lset_0, lset_1, lset_s, avw_I, avw_L, avw_R, clr_cons, clr_nil, kst_0, kst_1, kstL_0, kstL_1, addk_I, pA_0, pA_s, pD_0, pD_s, wid_nil, wid_cons, rcv_c, putv_I, putv_L, List.length_cons, List.length_nil, List.set_cons_zero, List.set_cons_succ, not_false_eq_true, Nat.reduceMod, Nat.reduceDiv, Nat.reduceEqDiff, Nat.reduceLT, Nat.reduceLeDiff, Nat.reduceAdd, Nat.reduceSub, reduceIte, Nat.lt_irrefl, Nat.zero_ne_one, Nat.one_ne_zero, Nat.zero_add, List.nil_append, List.cons_append, Option.toList_some, Option.toList_none, forall_const, false_implies, true_implies, false_or, or_false, true_or, or_true, i_le, i_lt, i_eq, i_eq0, i_lt0, i_0le, i_0lt, i_le0, i_in1, i_cl, nI_add, pk_mul, pk_sub, i_div, i_rem, i_sh1, i_bit, i_or, i_and, i_andn, nt_le, nf_le, nt_lt, nf_lt, nt_eq, nf_eq, not_true_eq_false, and_self, and_false, false_and, eq_self, Bool.toNat_true, Bool.toNat_false, i_bool, i_bool1, Bool.false_eq_true, Bool.true_eq_false, reduceCtorEq, i_neg1, i_neg2, i_neg3, i_neg4, i_neg5, i_neg6, i_neg7, i_neg8, i_neg9, i_nega, i_negb, i_negc, i_max2, i_min2])
      refine c_pass (j := 3) (by decide) y2 ho (by decide) hs (by decide) (by rw [ofc_0]; exact Nat.zero_le _) (fun S3 y3 f3 => ?_)
      try simp (disch := omega) only [no0, no1, nz1, nz2, nz3, nz4, nz5, nz7, nz8, Classical.not_not, bz0, bz1, wi_nil, ld_0, ld_s, isIv_I, isLv_L, isRv_R, true_and, and_true, lset_0, lset_1, lset_s, avw_I, avw_L, avw_R, clr_cons, clr_nil, kst_0, kst_1, kstL_0, kstL_1, addk_I, pA_0, pA_s, pD_0, pD_s, wid_nil, wid_cons, rcv_c, putv_I, putv_L, List.length_cons, List.length_nil, List.set_cons_zero, List.set_cons_succ, not_false_eq_true, Nat.reduceMod, Nat.reduceDiv, Nat.reduceEqDiff, Nat.reduceLT, Nat.reduceLeDiff, Nat.reduceAdd, Nat.reduceSub, reduceIte, Nat.lt_irrefl, Nat.zero_ne_one, Nat.one_ne_zero, Nat.zero_add, List.nil_append, List.cons_append, Option.toList_some, Option.toList_none, forall_const, false_implies, true_implies, false_or, or_false, true_or, or_true, i_le, i_lt, i_eq, i_eq0, i_lt0, i_0le, i_0lt, i_le0, i_in1, i_cl, nI_add, pk_mul, pk_sub, i_div, i_rem, i_sh1, i_bit, i_or, i_and, i_andn, nt_le, nf_le, nt_lt, nf_lt, nt_eq, nf_eq, not_true_eq_false, and_self, and_false, false_and, eq_self, Bool.toNat_true, Bool.toNat_false, i_bool, i_bool1, Bool.false_eq_true, Bool.true_eq_false, reduceCtorEq, i_neg1, i_neg2, i_neg3, i_neg4, i_neg5, i_neg6, i_neg7, i_neg8, i_neg9, i_nega, i_negb, i_negc, i_max2, i_min2, wi_nil]
      repeat (
        first
        | refine s_X2_behind_0 ?_
        | refine s_X2_behind_9 ?_
        | refine s_X2_behind_20 ?_
        | refine s_X2_behind_24 ?_
        | refine s_X2_behind_32 ?_
        | refine s_X2_behind_40 ?_
        simp (disch := omega) only [B_X2_behind_0, wi_iload_n, wi_iconst, wi_iadd, wi_icmp_lt, wi_aload_n, wi_areturn, B_X2_behind_9, wi_if_ne, wi_getfield, fldv_1_0, fds_1_0, cnt_1, wi_goto, B_X2_behind_20, fldv_1_1, fds_1_1, B_X2_behind_24, wi_astore, wi_aload, wi_invokevirtual, cnt_6, B_X2_behind_32, wi_iload, B_X2_behind_40, no0, no1, nz1, nz2, nz3, nz4, nz5, nz7, nz8, Classical.not_not, bz0, bz1, wi_nil, ld_0, ld_s, isIv_I, isLv_L, isRv_R, true_and, and_true, lset_0, lset_1, lset_s, avw_I, avw_L, avw_R, clr_cons, clr_nil, kst_0, kst_1, kstL_0, kstL_1, addk_I, pA_0, pA_s, pD_0, pD_s, wid_nil, wid_cons, rcv_c, putv_I, putv_L, List.length_cons, List.length_nil, List.set_cons_zero, List.set_cons_succ, not_false_eq_true, Nat.reduceMod, Nat.reduceDiv, Nat.reduceEqDiff, Nat.reduceLT, Nat.reduceLeDiff, Nat.reduceAdd, Nat.reduceSub, reduceIte, Nat.lt_irrefl, Nat.zero_ne_one, Nat.one_ne_zero, Nat.zero_add, List.nil_append, List.cons_append, Option.toList_some, Option.toList_none, forall_const, false_implies, true_implies, false_or, or_false, true_or, or_true, i_le, i_lt, i_eq, i_eq0, i_lt0, i_0le, i_0lt, i_le0, i_in1, i_cl, nI_add, pk_mul, pk_sub, i_div, i_rem, i_sh1, i_bit, i_or, i_and, i_andn, nt_le, nf_le, nt_lt, nf_lt, nt_eq, nf_eq, not_true_eq_false, and_self, and_false, false_and, eq_self, Bool.toNat_true, Bool.toNat_false, i_bool, i_bool1, Bool.false_eq_true, Bool.true_eq_false, reduceCtorEq, i_neg1, i_neg2, i_neg3, i_neg4, i_neg5, i_neg6, i_neg7, i_neg8, i_neg9, i_nega, i_negb, i_negc, i_max2, i_min2])
      exact q S3 y3 (f2.trans f3)
    · refine x_entry (ls2 := [aR 1 0, aR 6 (yi 1), aI (nI 1), aI (nI n), aI (nI s), aU]) (Nat.le_of_ble_eq_true rfl) pl_2 rfl (Nat.le_of_ble_eq_true rfl) ?_
      try simp (disch := omega) only [no0, no1, nz1, nz2, nz3, nz4, nz5, nz7, nz8, Classical.not_not, bz0, bz1, wi_nil, ld_0, ld_s, isIv_I, isLv_L, isRv_R, true_and, and_true, lset_0, lset_1, lset_s, avw_I, avw_L, avw_R, clr_cons, clr_nil, kst_0, kst_1, kstL_0, kstL_1, addk_I, pA_0, pA_s, pD_0, pD_s, wid_nil, wid_cons, rcv_c, putv_I, putv_L, List.length_cons, List.length_nil, List.set_cons_zero, List.set_cons_succ, not_false_eq_true, Nat.reduceMod, Nat.reduceDiv, Nat.reduceEqDiff, Nat.reduceLT, Nat.reduceLeDiff, Nat.reduceAdd, Nat.reduceSub, reduceIte, Nat.lt_irrefl, Nat.zero_ne_one, Nat.one_ne_zero, Nat.zero_add, List.nil_append, List.cons_append, Option.toList_some, Option.toList_none, forall_const, false_implies, true_implies, false_or, or_false, true_or, or_true, i_le, i_lt, i_eq, i_eq0, i_lt0, i_0le, i_0lt, i_le0, i_in1, i_cl, nI_add, pk_mul, pk_sub, i_div, i_rem, i_sh1, i_bit, i_or, i_and, i_andn, nt_le, nf_le, nt_lt, nf_lt, nt_eq, nf_eq, not_true_eq_false, and_self, and_false, false_and, eq_self, Bool.toNat_true, Bool.toNat_false, i_bool, i_bool1, Bool.false_eq_true, Bool.true_eq_false, reduceCtorEq, i_neg1, i_neg2, i_neg3, i_neg4, i_neg5, i_neg6, i_neg7, i_neg8, i_neg9, i_nega, i_negb, i_negc, i_max2, i_min2, wi_nil]
      repeat (
        first
        | refine s_X2_behind_0 ?_
        | refine s_X2_behind_9 ?_
        | refine s_X2_behind_20 ?_
        | refine s_X2_behind_24 ?_
        | refine s_X2_behind_32 ?_
        | refine s_X2_behind_40 ?_
        simp (disch := omega) only [B_X2_behind_0, wi_iload_n, wi_iconst, wi_iadd, wi_icmp_lt, wi_aload_n, wi_areturn, B_X2_behind_9, wi_if_ne, wi_getfield, fldv_1_0, fds_1_0, cnt_1, wi_goto, B_X2_behind_20, fldv_1_1, fds_1_1, B_X2_behind_24, wi_astore, wi_aload, wi_invokevirtual, cnt_6, B_X2_behind_32, wi_iload, B_X2_behind_40, no0, no1, nz1, nz2, nz3, nz4, nz5, nz7, nz8, Classical.not_not, bz0, bz1, wi_nil, ld_0, ld_s, isIv_I, isLv_L, isRv_R, true_and, and_true, lset_0, lset_1, lset_s, avw_I, avw_L, avw_R, clr_cons, clr_nil, kst_0, kst_1, kstL_0, kstL_1, addk_I, pA_0, pA_s, pD_0, pD_s, wid_nil, wid_cons, rcv_c, putv_I, putv_L, List.length_cons, List.length_nil, List.set_cons_zero, List.set_cons_succ, not_false_eq_true, Nat.reduceMod, Nat.reduceDiv, Nat.reduceEqDiff, Nat.reduceLT, Nat.reduceLeDiff, Nat.reduceAdd, Nat.reduceSub, reduceIte, Nat.lt_irrefl, Nat.zero_ne_one, Nat.one_ne_zero, Nat.zero_add, List.nil_append, List.cons_append, Option.toList_some, Option.toList_none, forall_const, false_implies, true_implies, false_or, or_false, true_or, or_true, i_le, i_lt, i_eq, i_eq0, i_lt0, i_0le, i_0lt, i_le0, i_in1, i_cl, nI_add, pk_mul, pk_sub, i_div, i_rem, i_sh1, i_bit, i_or, i_and, i_andn, nt_le, nf_le, nt_lt, nf_lt, nt_eq, nf_eq, not_true_eq_false, and_self, and_false, false_and, eq_self, Bool.toNat_true, Bool.toNat_false, i_bool, i_bool1, Bool.false_eq_true, Bool.true_eq_false, reduceCtorEq, i_neg1, i_neg2, i_neg3, i_neg4, i_neg5, i_neg6, i_neg7, i_neg8, i_neg9, i_nega, i_negb, i_negc, i_max2, i_min2])
      refine c_become (i := 3) (j := 4) (by decide) (by decide) (by decide) hy (fun S2 y2 f2 => ?_)
      try simp (disch := omega) only [no0, no1, nz1, nz2, nz3, nz4, nz5, nz7, nz8, Classical.not_not, bz0, bz1, wi_nil, ld_0, ld_s, isIv_I, isLv_L, isRv_R, true_and, and_true, lset_0, lset_1, lset_s, avw_I, avw_L, avw_R, clr_cons, clr_nil, kst_0, kst_1, kstL_0, kstL_1, addk_I, pA_0, pA_s, pD_0, pD_s, wid_nil, wid_cons, rcv_c, putv_I, putv_L, List.length_cons, List.length_nil, List.set_cons_zero, List.set_cons_succ, not_false_eq_true, Nat.reduceMod, Nat.reduceDiv, Nat.reduceEqDiff, Nat.reduceLT, Nat.reduceLeDiff, Nat.reduceAdd, Nat.reduceSub, reduceIte, Nat.lt_irrefl, Nat.zero_ne_one, Nat.one_ne_zero, Nat.zero_add, List.nil_append, List.cons_append, Option.toList_some, Option.toList_none, forall_const, false_implies, true_implies, false_or, or_false, true_or, or_true, i_le, i_lt, i_eq, i_eq0, i_lt0, i_0le, i_0lt, i_le0, i_in1, i_cl, nI_add, pk_mul, pk_sub, i_div, i_rem, i_sh1, i_bit, i_or, i_and, i_andn, nt_le, nf_le, nt_lt, nf_lt, nt_eq, nf_eq, not_true_eq_false, and_self, and_false, false_and, eq_self, Bool.toNat_true, Bool.toNat_false, i_bool, i_bool1, Bool.false_eq_true, Bool.true_eq_false, reduceCtorEq, i_neg1, i_neg2, i_neg3, i_neg4, i_neg5, i_neg6, i_neg7, i_neg8, i_neg9, i_nega, i_negb, i_negc, i_max2, i_min2, wi_nil]
      repeat (
        first
        | refine s_X2_behind_0 ?_
        | refine s_X2_behind_9 ?_
        | refine s_X2_behind_20 ?_
        | refine s_X2_behind_24 ?_
        | refine s_X2_behind_32 ?_
        | refine s_X2_behind_40 ?_
        simp (disch := omega) only [B_X2_behind_0, wi_iload_n, wi_iconst, wi_iadd, wi_icmp_lt, wi_aload_n, wi_areturn, B_X2_behind_9, wi_if_ne, wi_getfield, fldv_1_0, fds_1_0, cnt_1, wi_goto, B_X2_behind_20, fldv_1_1, fds_1_1, B_X2_behind_24, wi_astore, wi_aload, wi_invokevirtual, cnt_6, B_X2_behind_32, wi_iload, B_X2_behind_40, no0, no1, nz1, nz2, nz3, nz4, nz5, nz7, nz8, Classical.not_not, bz0, bz1, wi_nil, ld_0, ld_s, isIv_I, isLv_L, isRv_R, true_and, and_true, lset_0, lset_1, lset_s, avw_I, avw_L, avw_R, clr_cons, clr_nil, kst_0, kst_1, kstL_0, kstL_1, addk_I, pA_0, pA_s, pD_0, pD_s, wid_nil, wid_cons, rcv_c, putv_I, putv_L, List.length_cons, List.length_nil, List.set_cons_zero, List.set_cons_succ, not_false_eq_true, Nat.reduceMod, Nat.reduceDiv, Nat.reduceEqDiff, Nat.reduceLT, Nat.reduceLeDiff, Nat.reduceAdd, Nat.reduceSub, reduceIte, Nat.lt_irrefl, Nat.zero_ne_one, Nat.one_ne_zero, Nat.zero_add, List.nil_append, List.cons_append, Option.toList_some, Option.toList_none, forall_const, false_implies, true_implies, false_or, or_false, true_or, or_true, i_le, i_lt, i_eq, i_eq0, i_lt0, i_0le, i_0lt, i_le0, i_in1, i_cl, nI_add, pk_mul, pk_sub, i_div, i_rem, i_sh1, i_bit, i_or, i_and, i_andn, nt_le, nf_le, nt_lt, nf_lt, nt_eq, nf_eq, not_true_eq_false, and_self, and_false, false_and, eq_self, Bool.toNat_true, Bool.toNat_false, i_bool, i_bool1, Bool.false_eq_true, Bool.true_eq_false, reduceCtorEq, i_neg1, i_neg2, i_neg3, i_neg4, i_neg5, i_neg6, i_neg7, i_neg8, i_neg9, i_nega, i_negb, i_negc, i_max2, i_min2])
      refine c_pass (j := 4) (by decide) y2 ho (by decide) hs (by decide) (by rw [ofc_0]; exact Nat.zero_le _) (fun S3 y3 f3 => ?_)
      try simp (disch := omega) only [no0, no1, nz1, nz2, nz3, nz4, nz5, nz7, nz8, Classical.not_not, bz0, bz1, wi_nil, ld_0, ld_s, isIv_I, isLv_L, isRv_R, true_and, and_true, lset_0, lset_1, lset_s, avw_I, avw_L, avw_R, clr_cons, clr_nil, kst_0, kst_1, kstL_0, kstL_1, addk_I, pA_0, pA_s, pD_0, pD_s, wid_nil, wid_cons, rcv_c, putv_I, putv_L, List.length_cons, List.length_nil, List.set_cons_zero, List.set_cons_succ, not_false_eq_true, Nat.reduceMod, Nat.reduceDiv, Nat.reduceEqDiff, Nat.reduceLT, Nat.reduceLeDiff, Nat.reduceAdd, Nat.reduceSub, reduceIte, Nat.lt_irrefl, Nat.zero_ne_one, Nat.one_ne_zero, Nat.zero_add, List.nil_append, List.cons_append, Option.toList_some, Option.toList_none, forall_const, false_implies, true_implies, false_or, or_false, true_or, or_true, i_le, i_lt, i_eq, i_eq0, i_lt0, i_0le, i_0lt, i_le0, i_in1, i_cl, nI_add, pk_mul, pk_sub, i_div, i_rem, i_sh1, i_bit, i_or, i_and, i_andn, nt_le, nf_le, nt_lt, nf_lt, nt_eq, nf_eq, not_true_eq_false, and_self, and_false, false_and, eq_self, Bool.toNat_true, Bool.toNat_false, i_bool, i_bool1, Bool.false_eq_true, Bool.true_eq_false, reduceCtorEq, i_neg1, i_neg2, i_neg3, i_neg4, i_neg5, i_neg6, i_neg7, i_neg8, i_neg9, i_nega, i_negb, i_negc, i_max2, i_min2, wi_nil]
      repeat (
        first
        | refine s_X2_behind_0 ?_
        | refine s_X2_behind_9 ?_
        | refine s_X2_behind_20 ?_
        | refine s_X2_behind_24 ?_
        | refine s_X2_behind_32 ?_
        | refine s_X2_behind_40 ?_
        simp (disch := omega) only [B_X2_behind_0, wi_iload_n, wi_iconst, wi_iadd, wi_icmp_lt, wi_aload_n, wi_areturn, B_X2_behind_9, wi_if_ne, wi_getfield, fldv_1_0, fds_1_0, cnt_1, wi_goto, B_X2_behind_20, fldv_1_1, fds_1_1, B_X2_behind_24, wi_astore, wi_aload, wi_invokevirtual, cnt_6, B_X2_behind_32, wi_iload, B_X2_behind_40, no0, no1, nz1, nz2, nz3, nz4, nz5, nz7, nz8, Classical.not_not, bz0, bz1, wi_nil, ld_0, ld_s, isIv_I, isLv_L, isRv_R, true_and, and_true, lset_0, lset_1, lset_s, avw_I, avw_L, avw_R, clr_cons, clr_nil, kst_0, kst_1, kstL_0, kstL_1, addk_I, pA_0, pA_s, pD_0, pD_s, wid_nil, wid_cons, rcv_c, putv_I, putv_L, List.length_cons, List.length_nil, List.set_cons_zero, List.set_cons_succ, not_false_eq_true, Nat.reduceMod, Nat.reduceDiv, Nat.reduceEqDiff, Nat.reduceLT, Nat.reduceLeDiff, Nat.reduceAdd, Nat.reduceSub, reduceIte, Nat.lt_irrefl, Nat.zero_ne_one, Nat.one_ne_zero, Nat.zero_add, List.nil_append, List.cons_append, Option.toList_some, Option.toList_none, forall_const, false_implies, true_implies, false_or, or_false, true_or, or_true, i_le, i_lt, i_eq, i_eq0, i_lt0, i_0le, i_0lt, i_le0, i_in1, i_cl, nI_add, pk_mul, pk_sub, i_div, i_rem, i_sh1, i_bit, i_or, i_and, i_andn, nt_le, nf_le, nt_lt, nf_lt, nt_eq, nf_eq, not_true_eq_false, and_self, and_false, false_and, eq_self, Bool.toNat_true, Bool.toNat_false, i_bool, i_bool1, Bool.false_eq_true, Bool.true_eq_false, reduceCtorEq, i_neg1, i_neg2, i_neg3, i_neg4, i_neg5, i_neg6, i_neg7, i_neg8, i_neg9, i_nega, i_negb, i_negc, i_max2, i_min2])
      exact q S3 y3 (f2.trans f3)
def SK (k : Nat) : Prop := ∀ (d n e j : Nat) (Y : Nat → Nat → Nat) (q : Nat → Nat) (sum : Nat) (st : Nat × (Nat → Nat)) (S : MS) (P : Option AV → MS → Prop), e + k = n → n ≤ 3 → (0 < k → j = yi e ∧ YrX S (yi e) Y) → YOk (40 + e) Y → sum ≤ 6 * e → HS n st q e S → st.1 ≤ 19 → (∀ S2, HS n (sk k e Y q sum st) q e S2 → FP e S S2 → P none S2) → wpM (d + k + 5) mX2_seek [aR 1 0, aR 6 j, aI (nI e), aI (nI n), aI (nI sum)] S P
theorem sk_base : SK 0 := by
  intro d n e j Y q sum st S P hk hn _ ho hsum h hst fin
  have e1 : e = n := by omega
  subst e1
  refine x_entry (ls2 := [aR 1 0, aR 6 j, aI (nI e), aI (nI e), aI (nI sum), aU, aU, aU, aU]) (Nat.le_of_ble_eq_true rfl) pl_2 rfl (Nat.le_of_ble_eq_true rfl) ?_
  try simp (disch := omega) only [no0, no1, nz1, nz2, nz3, nz4, nz5, nz7, nz8, Classical.not_not, bz0, bz1, wi_nil, ld_0, ld_s, isIv_I, isLv_L, isRv_R, true_and, and_true, lset_0, lset_1, lset_s, avw_I, avw_L, avw_R, clr_cons, clr_nil, kst_0, kst_1, kstL_0, kstL_1, addk_I, pA_0, pA_s, pD_0, pD_s, wid_nil, wid_cons, rcv_c, putv_I, putv_L, List.length_cons, List.length_nil, List.set_cons_zero, List.set_cons_succ, not_false_eq_true, Nat.reduceMod, Nat.reduceDiv, Nat.reduceEqDiff, Nat.reduceLT, Nat.reduceLeDiff, Nat.reduceAdd, Nat.reduceSub, reduceIte, Nat.lt_irrefl, Nat.zero_ne_one, Nat.one_ne_zero, Nat.zero_add, List.nil_append, List.cons_append, Option.toList_some, Option.toList_none, forall_const, false_implies, true_implies, false_or, or_false, true_or, or_true, i_le, i_lt, i_eq, i_eq0, i_lt0, i_0le, i_0lt, i_le0, i_in1, i_cl, nI_add, pk_mul, pk_sub, i_div, i_rem, i_sh1, i_bit, i_or, i_and, i_andn, nt_le, nf_le, nt_lt, nf_lt, nt_eq, nf_eq, not_true_eq_false, and_self, and_false, false_and, eq_self, Bool.toNat_true, Bool.toNat_false, i_bool, i_bool1, Bool.false_eq_true, Bool.true_eq_false, reduceCtorEq, i_neg1, i_neg2, i_neg3, i_neg4, i_neg5, i_neg6, i_neg7, i_neg8, i_neg9, i_nega, i_negb, i_negc, i_max2, i_min2, wi_nil]
  repeat (
    first
    | refine s_X2_seek_0 ?_
    | refine s_X2_seek_10 ?_
    | refine s_X2_seek_17 ?_
    | refine s_X2_seek_18 ?_
    | refine s_X2_seek_22 ?_
    | refine s_X2_seek_28 ?_
    | refine s_X2_seek_40 ?_
    | refine s_X2_seek_103 ?_
    | refine s_X2_seek_114 ?_
    | refine s_X2_seek_118 ?_
    | refine s_X2_seek_124 ?_
    simp (disch := omega) only [B_X2_seek_0, wi_iload_n, wi_icmp_ge, wi_iconst, wi_icmp_lt, B_X2_seek_10, wi_aload_n, wi_iload, wi_invokevirtual, cnt_1, B_X2_seek_17, wi_return_, B_X2_seek_18, cnt_6, B_X2_seek_22, wi_istore, B_X2_seek_28, wi_astore, wi_isub, wi_invokestatic, B_X2_seek_40, wi_imul, wi_iadd, B_X2_seek_47, wi_bipush, wi_getfield, fldv_1_4, fds_1_4, wi_icmp_le, wi_ixor, wi_iand, wi_if_ne, wi_aload, wi_iaload, fldv_6_9, fds_6_9, wi_icmp_gt, fldv_1_2, fds_1_2, wi_iastore, cnt_13, aTy_13, aLn_13, arr_13, B_X2_seek_103, B_X2_seek_114, B_X2_seek_118, wi_iinc, wi_goto, B_X2_seek_124, no0, no1, nz1, nz2, nz3, nz4, nz5, nz7, nz8, Classical.not_not, bz0, bz1, wi_nil, ld_0, ld_s, isIv_I, isLv_L, isRv_R, true_and, and_true, lset_0, lset_1, lset_s, avw_I, avw_L, avw_R, clr_cons, clr_nil, kst_0, kst_1, kstL_0, kstL_1, addk_I, pA_0, pA_s, pD_0, pD_s, wid_nil, wid_cons, rcv_c, putv_I, putv_L, List.length_cons, List.length_nil, List.set_cons_zero, List.set_cons_succ, not_false_eq_true, Nat.reduceMod, Nat.reduceDiv, Nat.reduceEqDiff, Nat.reduceLT, Nat.reduceLeDiff, Nat.reduceAdd, Nat.reduceSub, reduceIte, Nat.lt_irrefl, Nat.zero_ne_one, Nat.one_ne_zero, Nat.zero_add, List.nil_append, List.cons_append, Option.toList_some, Option.toList_none, forall_const, false_implies, true_implies, false_or, or_false, true_or, or_true, i_le, i_lt, i_eq, i_eq0, i_lt0, i_0le, i_0lt, i_le0, i_in1, i_cl, nI_add, pk_mul, pk_sub, i_div, i_rem, i_sh1, i_bit, i_or, i_and, i_andn, nt_le, nf_le, nt_lt, nf_lt, nt_eq, nf_eq, not_true_eq_false, and_self, and_false, false_and, eq_self, Bool.toNat_true, Bool.toNat_false, i_bool, i_bool1, Bool.false_eq_true, Bool.true_eq_false, reduceCtorEq, i_neg1, i_neg2, i_neg3, i_neg4, i_neg5, i_neg6, i_neg7, i_neg8, i_neg9, i_nega, i_negb, i_negc, i_max2, i_min2])
  refine c_note (e := e) (Y := Y) hn (by omega) (by omega) h (fun S2 g2 f2 => ?_)
  try simp (disch := omega) only [no0, no1, nz1, nz2, nz3, nz4, nz5, nz7, nz8, Classical.not_not, bz0, bz1, wi_nil, ld_0, ld_s, isIv_I, isLv_L, isRv_R, true_and, and_true, lset_0, lset_1, lset_s, avw_I, avw_L, avw_R, clr_cons, clr_nil, kst_0, kst_1, kstL_0, kstL_1, addk_I, pA_0, pA_s, pD_0, pD_s, wid_nil, wid_cons, rcv_c, putv_I, putv_L, List.length_cons, List.length_nil, List.set_cons_zero, List.set_cons_succ, not_false_eq_true, Nat.reduceMod, Nat.reduceDiv, Nat.reduceEqDiff, Nat.reduceLT, Nat.reduceLeDiff, Nat.reduceAdd, Nat.reduceSub, reduceIte, Nat.lt_irrefl, Nat.zero_ne_one, Nat.one_ne_zero, Nat.zero_add, List.nil_append, List.cons_append, Option.toList_some, Option.toList_none, forall_const, false_implies, true_implies, false_or, or_false, true_or, or_true, i_le, i_lt, i_eq, i_eq0, i_lt0, i_0le, i_0lt, i_le0, i_in1, i_cl, nI_add, pk_mul, pk_sub, i_div, i_rem, i_sh1, i_bit, i_or, i_and, i_andn, nt_le, nf_le, nt_lt, nf_lt, nt_eq, nf_eq, not_true_eq_false, and_self, and_false, false_and, eq_self, Bool.toNat_true, Bool.toNat_false, i_bool, i_bool1, Bool.false_eq_true, Bool.true_eq_false, reduceCtorEq, i_neg1, i_neg2, i_neg3, i_neg4, i_neg5, i_neg6, i_neg7, i_neg8, i_neg9, i_nega, i_negb, i_negc, i_max2, i_min2, wi_nil]
  repeat (
    first
    | refine s_X2_seek_0 ?_
    | refine s_X2_seek_10 ?_
    | refine s_X2_seek_17 ?_
    | refine s_X2_seek_18 ?_
    | refine s_X2_seek_22 ?_
    | refine s_X2_seek_28 ?_
    | refine s_X2_seek_40 ?_
    | refine s_X2_seek_103 ?_
    | refine s_X2_seek_114 ?_
    | refine s_X2_seek_118 ?_
    | refine s_X2_seek_124 ?_
    simp (disch := omega) only [B_X2_seek_0, wi_iload_n, wi_icmp_ge, wi_iconst, wi_icmp_lt, B_X2_seek_10, wi_aload_n, wi_iload, wi_invokevirtual, cnt_1, B_X2_seek_17, wi_return_, B_X2_seek_18, cnt_6, B_X2_seek_22, wi_istore, B_X2_seek_28, wi_astore, wi_isub, wi_invokestatic, B_X2_seek_40, wi_imul, wi_iadd, B_X2_seek_47, wi_bipush, wi_getfield, fldv_1_4, fds_1_4, wi_icmp_le, wi_ixor, wi_iand, wi_if_ne, wi_aload, wi_iaload, fldv_6_9, fds_6_9, wi_icmp_gt, fldv_1_2, fds_1_2, wi_iastore, cnt_13, aTy_13, aLn_13, arr_13, B_X2_seek_103, B_X2_seek_114, B_X2_seek_118, wi_iinc, wi_goto, B_X2_seek_124, no0, no1, nz1, nz2, nz3, nz4, nz5, nz7, nz8, Classical.not_not, bz0, bz1, wi_nil, ld_0, ld_s, isIv_I, isLv_L, isRv_R, true_and, and_true, lset_0, lset_1, lset_s, avw_I, avw_L, avw_R, clr_cons, clr_nil, kst_0, kst_1, kstL_0, kstL_1, addk_I, pA_0, pA_s, pD_0, pD_s, wid_nil, wid_cons, rcv_c, putv_I, putv_L, List.length_cons, List.length_nil, List.set_cons_zero, List.set_cons_succ, not_false_eq_true, Nat.reduceMod, Nat.reduceDiv, Nat.reduceEqDiff, Nat.reduceLT, Nat.reduceLeDiff, Nat.reduceAdd, Nat.reduceSub, reduceIte, Nat.lt_irrefl, Nat.zero_ne_one, Nat.one_ne_zero, Nat.zero_add, List.nil_append, List.cons_append, Option.toList_some, Option.toList_none, forall_const, false_implies, true_implies, false_or, or_false, true_or, or_true, i_le, i_lt, i_eq, i_eq0, i_lt0, i_0le, i_0lt, i_le0, i_in1, i_cl, nI_add, pk_mul, pk_sub, i_div, i_rem, i_sh1, i_bit, i_or, i_and, i_andn, nt_le, nf_le, nt_lt, nf_lt, nt_eq, nf_eq, not_true_eq_false, and_self, and_false, false_and, eq_self, Bool.toNat_true, Bool.toNat_false, i_bool, i_bool1, Bool.false_eq_true, Bool.true_eq_false, reduceCtorEq, i_neg1, i_neg2, i_neg3, i_neg4, i_neg5, i_neg6, i_neg7, i_neg8, i_neg9, i_nega, i_negb, i_negc, i_max2, i_min2])
  exact fin S2 g2 f2
theorem l_seek {k d n e sum : Nat} {q : Nat → Nat} {st : Nat × (Nat → Nat)} {S0 : MS} (IH : SK k) (hk : e + (k + 1) = n) (hn : n ≤ 3) (ho : YOk (40 + e) Y) (hsum : sum ≤ 6 * e) (hst : st.1 ≤ 19) (hy0 : YrX S0 (yi e) Y) (hw : ∀ s, s < 32 → gA S0 26 (yi e) s = nI (csum (ycz Y) 5 s)) (fin : ∀ S2, HS n (sk (k + 1) e Y q sum st) q e S2 → FP e S0 S2 → P none S2) :
    ∀ (m s : Nat) (S : MS), s + m = 32 → HS n (fld (skF k e Y q sum) s st) q e S → FP e S0 S → gA S 26 (yi e) = gA S0 26 (yi e) → wpX (d + k + 5) mX2_seek 47 [aR 1 0, aR 6 (yi e), aI (nI e), aI (nI n), aI (nI sum), aI (nI (yop Y)), aR 26 (yi e), aI (nI (sum + (k + 1) * bct (yop Y))), aI (nI s)] [] S P := by
  have h5 := ho.1.1
  have hyl := yop_lt (Y := Y) h5
  have hb := bct_lt (s := yop Y) (by omega)
  have hw40 := ho.1.2.2.1
  have hlv := lv_yi (e := e) (by omega)
  have hyi := yi_lt (e := e)
  have hkb : (k + 1) * bct (yop Y) ≤ 18 := by
    have h1 : (k + 1) * bct (yop Y) ≤ 3 * 6 := Nat.mul_le_mul (by omega) hb
    omega
  intro m
  induction m with
  | zero =>
    intro s S hs h hf h26
    have es : s = 32 := by omega
    subst es
    rw [← sk_s] at h
    refine s_X2_seek_47 ?_
    simp (disch := omega) only [B_X2_seek_47, wi_iload, wi_bipush, wi_icmp_ge, wi_aload_n, wi_getfield, fldv_1_4, fds_1_4, cnt_1, wi_icmp_le, wi_iconst, wi_ixor, wi_iand, wi_if_ne, wi_aload, wi_iaload, fldv_6_9, fds_6_9, cnt_6, wi_icmp_gt, fldv_1_2, fds_1_2, wi_iload_n, wi_iastore, wi_invokevirtual, cnt_13, aTy_13, aLn_13, arr_13, no0, no1, nz1, nz2, nz3, nz4, nz5, nz7, nz8, Classical.not_not, bz0, bz1, wi_nil, ld_0, ld_s, isIv_I, isLv_L, isRv_R, true_and, and_true, lset_0, lset_1, lset_s, avw_I, avw_L, avw_R, clr_cons, clr_nil, kst_0, kst_1, kstL_0, kstL_1, addk_I, pA_0, pA_s, pD_0, pD_s, wid_nil, wid_cons, rcv_c, putv_I, putv_L, List.length_cons, List.length_nil, List.set_cons_zero, List.set_cons_succ, not_false_eq_true, Nat.reduceMod, Nat.reduceDiv, Nat.reduceEqDiff, Nat.reduceLT, Nat.reduceLeDiff, Nat.reduceAdd, Nat.reduceSub, reduceIte, Nat.lt_irrefl, Nat.zero_ne_one, Nat.one_ne_zero, Nat.zero_add, List.nil_append, List.cons_append, Option.toList_some, Option.toList_none, forall_const, false_implies, true_implies, false_or, or_false, true_or, or_true, i_le, i_lt, i_eq, i_eq0, i_lt0, i_0le, i_0lt, i_le0, i_in1, i_cl, nI_add, pk_mul, pk_sub, i_div, i_rem, i_sh1, i_bit, i_or, i_and, i_andn, nt_le, nf_le, nt_lt, nf_lt, nt_eq, nf_eq, not_true_eq_false, and_self, and_false, false_and, eq_self, Bool.toNat_true, Bool.toNat_false, i_bool, i_bool1, Bool.false_eq_true, Bool.true_eq_false, reduceCtorEq, i_neg1, i_neg2, i_neg3, i_neg4, i_neg5, i_neg6, i_neg7, i_neg8, i_neg9, i_nega, i_negb, i_negc, i_max2, i_min2]
    try simp (disch := omega) only [no0, no1, nz1, nz2, nz3, nz4, nz5, nz7, nz8, Classical.not_not, bz0, bz1, wi_nil, ld_0, ld_s, isIv_I, isLv_L, isRv_R, true_and, and_true, lset_0, lset_1, lset_s, avw_I, avw_L, avw_R, clr_cons, clr_nil, kst_0, kst_1, kstL_0, kstL_1, addk_I, pA_0, pA_s, pD_0, pD_s, wid_nil, wid_cons, rcv_c, putv_I, putv_L, List.length_cons, List.length_nil, List.set_cons_zero, List.set_cons_succ, not_false_eq_true, Nat.reduceMod, Nat.reduceDiv, Nat.reduceEqDiff, Nat.reduceLT, Nat.reduceLeDiff, Nat.reduceAdd, Nat.reduceSub, reduceIte, Nat.lt_irrefl, Nat.zero_ne_one, Nat.one_ne_zero, Nat.zero_add, List.nil_append, List.cons_append, Option.toList_some, Option.toList_none, forall_const, false_implies, true_implies, false_or, or_false, true_or, or_true, i_le, i_lt, i_eq, i_eq0, i_lt0, i_0le, i_0lt, i_le0, i_in1, i_cl, nI_add, pk_mul, pk_sub, i_div, i_rem, i_sh1, i_bit, i_or, i_and, i_andn, nt_le, nf_le, nt_lt, nf_lt, nt_eq, nf_eq, not_true_eq_false, and_self, and_false, false_and, eq_self, Bool.toNat_true, Bool.toNat_false, i_bool, i_bool1, Bool.false_eq_true, Bool.true_eq_false, reduceCtorEq, i_neg1, i_neg2, i_neg3, i_neg4, i_neg5, i_neg6, i_neg7, i_neg8, i_neg9, i_nega, i_negb, i_negc, i_max2, i_min2, wi_nil]
    repeat (
      first
      | refine s_X2_seek_0 ?_
      | refine s_X2_seek_10 ?_
      | refine s_X2_seek_17 ?_
      | refine s_X2_seek_18 ?_
      | refine s_X2_seek_22 ?_
      | refine s_X2_seek_28 ?_
      | refine s_X2_seek_40 ?_
      | refine s_X2_seek_103 ?_
      | refine s_X2_seek_114 ?_
      | refine s_X2_seek_118 ?_
      | refine s_X2_seek_124 ?_
      simp (disch := omega) only [B_X2_seek_0, wi_iload_n, wi_icmp_ge, wi_iconst, wi_icmp_lt, B_X2_seek_10, wi_aload_n, wi_iload, wi_invokevirtual, cnt_1, B_X2_seek_17, wi_return_, B_X2_seek_18, cnt_6, B_X2_seek_22, wi_istore, B_X2_seek_28, wi_astore, wi_isub, wi_invokestatic, B_X2_seek_40, wi_imul, wi_iadd, B_X2_seek_47, wi_bipush, wi_getfield, fldv_1_4, fds_1_4, wi_icmp_le, wi_ixor, wi_iand, wi_if_ne, wi_aload, wi_iaload, fldv_6_9, fds_6_9, wi_icmp_gt, fldv_1_2, fds_1_2, wi_iastore, cnt_13, aTy_13, aLn_13, arr_13, B_X2_seek_103, B_X2_seek_114, B_X2_seek_118, wi_iinc, wi_goto, B_X2_seek_124, no0, no1, nz1, nz2, nz3, nz4, nz5, nz7, nz8, Classical.not_not, bz0, bz1, wi_nil, ld_0, ld_s, isIv_I, isLv_L, isRv_R, true_and, and_true, lset_0, lset_1, lset_s, avw_I, avw_L, avw_R, clr_cons, clr_nil, kst_0, kst_1, kstL_0, kstL_1, addk_I, pA_0, pA_s, pD_0, pD_s, wid_nil, wid_cons, rcv_c, putv_I, putv_L, List.length_cons, List.length_nil, List.set_cons_zero, List.set_cons_succ, not_false_eq_true, Nat.reduceMod, Nat.reduceDiv, Nat.reduceEqDiff, Nat.reduceLT, Nat.reduceLeDiff, Nat.reduceAdd, Nat.reduceSub, reduceIte, Nat.lt_irrefl, Nat.zero_ne_one, Nat.one_ne_zero, Nat.zero_add, List.nil_append, List.cons_append, Option.toList_some, Option.toList_none, forall_const, false_implies, true_implies, false_or, or_false, true_or, or_true, i_le, i_lt, i_eq, i_eq0, i_lt0, i_0le, i_0lt, i_le0, i_in1, i_cl, nI_add, pk_mul, pk_sub, i_div, i_rem, i_sh1, i_bit, i_or, i_and, i_andn, nt_le, nf_le, nt_lt, nf_lt, nt_eq, nf_eq, not_true_eq_false, and_self, and_false, false_and, eq_self, Bool.toNat_true, Bool.toNat_false, i_bool, i_bool1, Bool.false_eq_true, Bool.true_eq_false, reduceCtorEq, i_neg1, i_neg2, i_neg3, i_neg4, i_neg5, i_neg6, i_neg7, i_neg8, i_neg9, i_nega, i_negb, i_negc, i_max2, i_min2])
    exact fin S h hf
  | succ m ih =>
    intro s S hs h hf h26
    have hle : ∀ s, s ≤ 32 → (fld (skF k e Y q sum) s st).1 ≤ 19 := by
      intro s
      induction s with
      | zero => intro _; exact hst
      | succ s ihs =>
        intro hs
        rw [fld, skF]
        have hb := bct_lt (s := s) (by omega)
        split
        · exact sk_le _ _ _ _ _ _ _ (ihs (by omega)) (by omega)
        · exact ihs (by omega)
    have hp := hle s (by omega)
    have hy : YrX S (yi e) Y := yrx_fp hy0 hf (by omega)
    have hws : gA S 26 (yi e) s = nI (csum (ycz Y) 5 s) := by rw [h26]; exact hw s (by omega)
    have hcs := csum_lt ho s
    have hbs := bct_lt (s := s) (by omega)
    have a1 : s &&& (31 - yop Y) < 32 := and_lt32 (by omega)
    obtain ⟨st1, hst1⟩ : ∃ p, fld (skF k e Y q sum) s st = p := ⟨_, rfl⟩
    rw [hst1] at h hp
    obtain ⟨a, b⟩ := st1
    have hp : a ≤ 19 := hp
    obtain ⟨g1, g2, g3⟩ := id h
    have cont : okB Y s = false → wpX (d + k + 5) mX2_seek 47 [aR 1 0, aR 6 (yi e), aI (nI e), aI (nI n), aI (nI sum), aI (nI (yop Y)), aR 26 (yi e), aI (nI (sum + (k + 1) * bct (yop Y))), aI (nI (s + 1))] [] S P := by
      intro hno
      refine ih (s + 1) S (by omega) ?_ hf h26
      rw [fld, hst1, skF, hno, if_neg (by decide)]
      exact h
    by_cases c0 : a ≤ sum + (k + 1) * bct (yop Y)
    · have main : (gI S 1 0 4 = -nI 1 ∨ ∃ a2, a = a2 + 1 ∧ gI S 1 0 4 = nI a2) := by
        cases a with
        | zero => exact Or.inl g1
        | succ a => exact Or.inr ⟨a, rfl, g1.trans tI_s⟩
      have rest : s &&& (31 - yop Y) = 0 → csum (ycz Y) 5 s ≤ Y 6 2 → wpM (d + k + 5) mX2_behind [aR 1 0, aR 6 (yi e), aI (nI e), aI (nI n), aI (nI s)] (sA S 13 0 (upd (gA S 13 0) e (nI s))) (fun r S => wpX (d + k + 5) mX2_seek 103 [aR 1 0, aR 6 (yi e), aI (nI e), aI (nI n), aI (nI sum), aI (nI (yop Y)), aR 26 (yi e), aI (nI (sum + (k + 1) * bct (yop Y))), aI (nI s)] (r.toList ++ [aR 1 0]) S P) := by
        intro c1 c2
        have hok : okB Y s = true := by
          unfold okB subB
          rw [decide_eq_true c1, decide_eq_true c2]
          rfl
        have stp : ∀ T j, FP e S T → gA T 26 (yi e) = gA S 26 (yi e) → gA T 13 0 = upd (gA S 13 0) e (nI s) → gI T 1 0 4 = gI S 1 0 4 → gA T 14 0 = gA S 14 0 → (0 < k → j = yi (e + 1) ∧ YrX T (yi (e + 1)) (psY Y s 0)) → wpX (d + k + 5) mX2_seek 103 [aR 1 0, aR 6 (yi e), aI (nI e), aI (nI n), aI (nI sum), aI (nI (yop Y)), aR 26 (yi e), aI (nI (sum + (k + 1) * bct (yop Y))), aI (nI s)] [aR 6 j, aR 1 0] T P := by
          intro T j fT t26 t13 t4 t14 hj
          refine s_X2_seek_103 ?_
          simp (disch := omega) only [B_X2_seek_103, wi_iload_n, wi_iconst, wi_iadd, wi_iload, wi_invokestatic, no0, no1, nz1, nz2, nz3, nz4, nz5, nz7, nz8, Classical.not_not, bz0, bz1, wi_nil, ld_0, ld_s, isIv_I, isLv_L, isRv_R, true_and, and_true, lset_0, lset_1, lset_s, avw_I, avw_L, avw_R, clr_cons, clr_nil, kst_0, kst_1, kstL_0, kstL_1, addk_I, pA_0, pA_s, pD_0, pD_s, wid_nil, wid_cons, rcv_c, putv_I, putv_L, List.length_cons, List.length_nil, List.set_cons_zero, List.set_cons_succ, not_false_eq_true, Nat.reduceMod, Nat.reduceDiv, Nat.reduceEqDiff, Nat.reduceLT, Nat.reduceLeDiff, Nat.reduceAdd, Nat.reduceSub, reduceIte, Nat.lt_irrefl, Nat.zero_ne_one, Nat.one_ne_zero, Nat.zero_add, List.nil_append, List.cons_append, Option.toList_some, Option.toList_none, forall_const, false_implies, true_implies, false_or, or_false, true_or, or_true, i_le, i_lt, i_eq, i_eq0, i_lt0, i_0le, i_0lt, i_le0, i_in1, i_cl, nI_add, pk_mul, pk_sub, i_div, i_rem, i_sh1, i_bit, i_or, i_and, i_andn, nt_le, nf_le, nt_lt, nf_lt, nt_eq, nf_eq, not_true_eq_false, and_self, and_false, false_and, eq_self, Bool.toNat_true, Bool.toNat_false, i_bool, i_bool1, Bool.false_eq_true, Bool.true_eq_false, reduceCtorEq, i_neg1, i_neg2, i_neg3, i_neg4, i_neg5, i_neg6, i_neg7, i_neg8, i_neg9, i_nega, i_negb, i_negc, i_max2, i_min2]
          refine c_bitCount (by omega) ?_
          try simp (disch := omega) only [no0, no1, nz1, nz2, nz3, nz4, nz5, nz7, nz8, Classical.not_not, bz0, bz1, wi_nil, ld_0, ld_s, isIv_I, isLv_L, isRv_R, true_and, and_true, lset_0, lset_1, lset_s, avw_I, avw_L, avw_R, clr_cons, clr_nil, kst_0, kst_1, kstL_0, kstL_1, addk_I, pA_0, pA_s, pD_0, pD_s, wid_nil, wid_cons, rcv_c, putv_I, putv_L, List.length_cons, List.length_nil, List.set_cons_zero, List.set_cons_succ, not_false_eq_true, Nat.reduceMod, Nat.reduceDiv, Nat.reduceEqDiff, Nat.reduceLT, Nat.reduceLeDiff, Nat.reduceAdd, Nat.reduceSub, reduceIte, Nat.lt_irrefl, Nat.zero_ne_one, Nat.one_ne_zero, Nat.zero_add, List.nil_append, List.cons_append, Option.toList_some, Option.toList_none, forall_const, false_implies, true_implies, false_or, or_false, true_or, or_true, i_le, i_lt, i_eq, i_eq0, i_lt0, i_0le, i_0lt, i_le0, i_in1, i_cl, nI_add, pk_mul, pk_sub, i_div, i_rem, i_sh1, i_bit, i_or, i_and, i_andn, nt_le, nf_le, nt_lt, nf_lt, nt_eq, nf_eq, not_true_eq_false, and_self, and_false, false_and, eq_self, Bool.toNat_true, Bool.toNat_false, i_bool, i_bool1, Bool.false_eq_true, Bool.true_eq_false, reduceCtorEq, i_neg1, i_neg2, i_neg3, i_neg4, i_neg5, i_neg6, i_neg7, i_neg8, i_neg9, i_nega, i_negb, i_negc, i_max2, i_min2, wi_nil]
          repeat (
            first
            | refine s_X2_seek_0 ?_
            | refine s_X2_seek_10 ?_
            | refine s_X2_seek_17 ?_
            | refine s_X2_seek_18 ?_
            | refine s_X2_seek_22 ?_
            | refine s_X2_seek_28 ?_
            | refine s_X2_seek_40 ?_
            | refine s_X2_seek_103 ?_
            | refine s_X2_seek_114 ?_
            | refine s_X2_seek_118 ?_
            | refine s_X2_seek_124 ?_
            simp (disch := omega) only [B_X2_seek_0, wi_iload_n, wi_icmp_ge, wi_iconst, wi_icmp_lt, B_X2_seek_10, wi_aload_n, wi_iload, wi_invokevirtual, cnt_1, B_X2_seek_17, wi_return_, B_X2_seek_18, cnt_6, B_X2_seek_22, wi_istore, B_X2_seek_28, wi_astore, wi_isub, wi_invokestatic, B_X2_seek_40, wi_imul, wi_iadd, B_X2_seek_47, wi_bipush, wi_getfield, fldv_1_4, fds_1_4, wi_icmp_le, wi_ixor, wi_iand, wi_if_ne, wi_aload, wi_iaload, fldv_6_9, fds_6_9, wi_icmp_gt, fldv_1_2, fds_1_2, wi_iastore, cnt_13, aTy_13, aLn_13, arr_13, B_X2_seek_103, B_X2_seek_114, B_X2_seek_118, wi_iinc, wi_goto, B_X2_seek_124, no0, no1, nz1, nz2, nz3, nz4, nz5, nz7, nz8, Classical.not_not, bz0, bz1, wi_nil, ld_0, ld_s, isIv_I, isLv_L, isRv_R, true_and, and_true, lset_0, lset_1, lset_s, avw_I, avw_L, avw_R, clr_cons, clr_nil, kst_0, kst_1, kstL_0, kstL_1, addk_I, pA_0, pA_s, pD_0, pD_s, wid_nil, wid_cons, rcv_c, putv_I, putv_L, List.length_cons, List.length_nil, List.set_cons_zero, List.set_cons_succ, not_false_eq_true, Nat.reduceMod, Nat.reduceDiv, Nat.reduceEqDiff, Nat.reduceLT, Nat.reduceLeDiff, Nat.reduceAdd, Nat.reduceSub, reduceIte, Nat.lt_irrefl, Nat.zero_ne_one, Nat.one_ne_zero, Nat.zero_add, List.nil_append, List.cons_append, Option.toList_some, Option.toList_none, forall_const, false_implies, true_implies, false_or, or_false, true_or, or_true, i_le, i_lt, i_eq, i_eq0, i_lt0, i_0le, i_0lt, i_le0, i_in1, i_cl, nI_add, pk_mul, pk_sub, i_div, i_rem, i_sh1, i_bit, i_or, i_and, i_andn, nt_le, nf_le, nt_lt, nf_lt, nt_eq, nf_eq, not_true_eq_false, and_self, and_false, false_and, eq_self, Bool.toNat_true, Bool.toNat_false, i_bool, i_bool1, Bool.false_eq_true, Bool.true_eq_false, reduceCtorEq, i_neg1, i_neg2, i_neg3, i_neg4, i_neg5, i_neg6, i_neg7, i_neg8, i_neg9, i_nega, i_negb, i_negc, i_max2, i_min2])
          have hT : HS n (a, b) (updN q e s) (e + 1) T := by
            refine ⟨by rw [t4]; exact g1, by rw [t14]; exact g2, fun t ht => ?_⟩
            rw [t13]
            unfold updN
            by_cases et : t = e
            · rw [if_pos et, et, pk_us]
            · rw [if_neg et, pk_un et]
              exact g3 t (by omega)
          refine IH d n (e + 1) j (psY Y s 0) (updN q e s) (sum + bct s) (a, b) T _ (by omega) hn hj (psY_ok ho) (by omega) hT hp (fun U hU fU => ?_)
          try simp (disch := omega) only [no0, no1, nz1, nz2, nz3, nz4, nz5, nz7, nz8, Classical.not_not, bz0, bz1, wi_nil, ld_0, ld_s, isIv_I, isLv_L, isRv_R, true_and, and_true, lset_0, lset_1, lset_s, avw_I, avw_L, avw_R, clr_cons, clr_nil, kst_0, kst_1, kstL_0, kstL_1, addk_I, pA_0, pA_s, pD_0, pD_s, wid_nil, wid_cons, rcv_c, putv_I, putv_L, List.length_cons, List.length_nil, List.set_cons_zero, List.set_cons_succ, not_false_eq_true, Nat.reduceMod, Nat.reduceDiv, Nat.reduceEqDiff, Nat.reduceLT, Nat.reduceLeDiff, Nat.reduceAdd, Nat.reduceSub, reduceIte, Nat.lt_irrefl, Nat.zero_ne_one, Nat.one_ne_zero, Nat.zero_add, List.nil_append, List.cons_append, Option.toList_some, Option.toList_none, forall_const, false_implies, true_implies, false_or, or_false, true_or, or_true, i_le, i_lt, i_eq, i_eq0, i_lt0, i_0le, i_0lt, i_le0, i_in1, i_cl, nI_add, pk_mul, pk_sub, i_div, i_rem, i_sh1, i_bit, i_or, i_and, i_andn, nt_le, nf_le, nt_lt, nf_lt, nt_eq, nf_eq, not_true_eq_false, and_self, and_false, false_and, eq_self, Bool.toNat_true, Bool.toNat_false, i_bool, i_bool1, Bool.false_eq_true, Bool.true_eq_false, reduceCtorEq, i_neg1, i_neg2, i_neg3, i_neg4, i_neg5, i_neg6, i_neg7, i_neg8, i_neg9, i_nega, i_negb, i_negc, i_max2, i_min2, wi_nil]
          repeat (
            first
            | refine s_X2_seek_0 ?_
            | refine s_X2_seek_10 ?_
            | refine s_X2_seek_17 ?_
            | refine s_X2_seek_18 ?_
            | refine s_X2_seek_22 ?_
            | refine s_X2_seek_28 ?_
            | refine s_X2_seek_40 ?_
            | refine s_X2_seek_103 ?_
            | refine s_X2_seek_114 ?_
            | refine s_X2_seek_118 ?_
            | refine s_X2_seek_124 ?_
            simp (disch := omega) only [B_X2_seek_0, wi_iload_n, wi_icmp_ge, wi_iconst, wi_icmp_lt, B_X2_seek_10, wi_aload_n, wi_iload, wi_invokevirtual, cnt_1, B_X2_seek_17, wi_return_, B_X2_seek_18, cnt_6, B_X2_seek_22, wi_istore, B_X2_seek_28, wi_astore, wi_isub, wi_invokestatic, B_X2_seek_40, wi_imul, wi_iadd, B_X2_seek_47, wi_bipush, wi_getfield, fldv_1_4, fds_1_4, wi_icmp_le, wi_ixor, wi_iand, wi_if_ne, wi_aload, wi_iaload, fldv_6_9, fds_6_9, wi_icmp_gt, fldv_1_2, fds_1_2, wi_iastore, cnt_13, aTy_13, aLn_13, arr_13, B_X2_seek_103, B_X2_seek_114, B_X2_seek_118, wi_iinc, wi_goto, B_X2_seek_124, no0, no1, nz1, nz2, nz3, nz4, nz5, nz7, nz8, Classical.not_not, bz0, bz1, wi_nil, ld_0, ld_s, isIv_I, isLv_L, isRv_R, true_and, and_true, lset_0, lset_1, lset_s, avw_I, avw_L, avw_R, clr_cons, clr_nil, kst_0, kst_1, kstL_0, kstL_1, addk_I, pA_0, pA_s, pD_0, pD_s, wid_nil, wid_cons, rcv_c, putv_I, putv_L, List.length_cons, List.length_nil, List.set_cons_zero, List.set_cons_succ, not_false_eq_true, Nat.reduceMod, Nat.reduceDiv, Nat.reduceEqDiff, Nat.reduceLT, Nat.reduceLeDiff, Nat.reduceAdd, Nat.reduceSub, reduceIte, Nat.lt_irrefl, Nat.zero_ne_one, Nat.one_ne_zero, Nat.zero_add, List.nil_append, List.cons_append, Option.toList_some, Option.toList_none, forall_const, false_implies, true_implies, false_or, or_false, true_or, or_true, i_le, i_lt, i_eq, i_eq0, i_lt0, i_0le, i_0lt, i_le0, i_in1, i_cl, nI_add, pk_mul, pk_sub, i_div, i_rem, i_sh1, i_bit, i_or, i_and, i_andn, nt_le, nf_le, nt_lt, nf_lt, nt_eq, nf_eq, not_true_eq_false, and_self, and_false, false_and, eq_self, Bool.toNat_true, Bool.toNat_false, i_bool, i_bool1, Bool.false_eq_true, Bool.true_eq_false, reduceCtorEq, i_neg1, i_neg2, i_neg3, i_neg4, i_neg5, i_neg6, i_neg7, i_neg8, i_neg9, i_nega, i_negb, i_negc, i_max2, i_min2])
          refine ih (s + 1) U (by omega) ?_ ((hf.trans fT).trans (fU.mono (by omega))) ?_
          · rw [fld, hst1, skF, hok, if_pos rfl]
            obtain ⟨u1, u2, u3⟩ := hU
            refine ⟨u1, u2, fun t ht => ?_⟩
            have := u3 t (by omega)
            unfold updN at this
            rw [if_neg (by omega)] at this
            exact this
          · rw [fU.2.2.1 26 (yi e) (by omega) (fun q => by have := q.2.1; omega) (fun q => by have := q.2; omega), t26]
            exact h26
        have hyS : YrX (sA S 13 0 (upd (gA S 13 0) e (nI s))) (yi e) Y := yrx_fp hy (fp_13 (e := e)) (by omega)
        rw [show d + k + 5 = d + k + 1 + 4 by omega]
        refine c_behind hn (by omega) (by omega) hyS ho (fun c3 => ?_) (fun c3 T y2 f2 => ?_)
        · refine stp _ (yi e) fp_13 rfl (by rw [gA_same]) rfl rfl (fun h0 => by omega)
        · have hlv2 := lv_yi (e := e + 1) (by omega)
          have hne : yi e ≠ yi (e + 1) := fun q => by rw [← q] at hlv2; omega
          refine stp T (yi (e + 1)) (fp_13.trans (fp_fy (by omega) f2)) ?_ ?_ ?_ ?_ (fun _ => ⟨rfl, y2⟩)
          · rw [f2.2.2 26 (yi e) (fun q => hne q.2.2)]
            rfl
          · rw [f2.2.2 13 0 (by omega), gA_same]
          · rw [f2.1 1 0 4 (by omega)]
            rfl
          · rw [f2.2.2 14 0 (by omega)]
            rfl
      have no1 : ¬ s &&& (31 - yop Y) = 0 → okB Y s = false := fun c1 => by
        unfold okB subB
        rw [decide_eq_false c1]
        rfl
      have no2 : ¬ csum (ycz Y) 5 s ≤ Y 6 2 → okB Y s = false := fun c2 => by
        unfold okB
        rw [decide_eq_false c2, Bool.and_false]
      rcases main with g | ⟨a2, ea, g⟩
      · by_cases c1 : s &&& (31 - yop Y) = 0
        · by_cases c2 : csum (ycz Y) 5 s ≤ Y 6 2
          · refine s_X2_seek_47 ?_
            simp (disch := omega) only [B_X2_seek_47, wi_iload, wi_bipush, wi_icmp_ge, wi_aload_n, wi_getfield, fldv_1_4, fds_1_4, cnt_1, wi_icmp_le, wi_iconst, wi_ixor, wi_iand, wi_if_ne, wi_aload, wi_iaload, fldv_6_9, fds_6_9, cnt_6, wi_icmp_gt, fldv_1_2, fds_1_2, wi_iload_n, wi_iastore, wi_invokevirtual, cnt_13, aTy_13, aLn_13, arr_13, cnt_26, aTy_26, aLn_26, arr_26, no0, no1, nz1, nz2, nz3, nz4, nz5, nz7, nz8, Classical.not_not, bz0, bz1, wi_nil, ld_0, ld_s, isIv_I, isLv_L, isRv_R, true_and, and_true, lset_0, lset_1, lset_s, avw_I, avw_L, avw_R, clr_cons, clr_nil, kst_0, kst_1, kstL_0, kstL_1, addk_I, pA_0, pA_s, pD_0, pD_s, wid_nil, wid_cons, rcv_c, putv_I, putv_L, List.length_cons, List.length_nil, List.set_cons_zero, List.set_cons_succ, not_false_eq_true, Nat.reduceMod, Nat.reduceDiv, Nat.reduceEqDiff, Nat.reduceLT, Nat.reduceLeDiff, Nat.reduceAdd, Nat.reduceSub, reduceIte, Nat.lt_irrefl, Nat.zero_ne_one, Nat.one_ne_zero, Nat.zero_add, List.nil_append, List.cons_append, Option.toList_some, Option.toList_none, forall_const, false_implies, true_implies, false_or, or_false, true_or, or_true, i_le, i_lt, i_eq, i_eq0, i_lt0, i_0le, i_0lt, i_le0, i_in1, i_cl, nI_add, pk_mul, pk_sub, i_div, i_rem, i_sh1, i_bit, i_or, i_and, i_andn, nt_le, nf_le, nt_lt, nf_lt, nt_eq, nf_eq, not_true_eq_false, and_self, and_false, false_and, eq_self, Bool.toNat_true, Bool.toNat_false, i_bool, i_bool1, Bool.false_eq_true, Bool.true_eq_false, reduceCtorEq, i_neg1, i_neg2, i_neg3, i_neg4, i_neg5, i_neg6, i_neg7, i_neg8, i_neg9, i_nega, i_negb, i_negc, i_max2, i_min2, g, hws, (y_will hy)]
            exact rest c1 c2
          · refine s_X2_seek_47 ?_
            simp (disch := omega) only [B_X2_seek_47, wi_iload, wi_bipush, wi_icmp_ge, wi_aload_n, wi_getfield, fldv_1_4, fds_1_4, cnt_1, wi_icmp_le, wi_iconst, wi_ixor, wi_iand, wi_if_ne, wi_aload, wi_iaload, fldv_6_9, fds_6_9, cnt_6, wi_icmp_gt, fldv_1_2, fds_1_2, wi_iload_n, wi_iastore, wi_invokevirtual, cnt_13, aTy_13, aLn_13, arr_13, cnt_26, aTy_26, aLn_26, arr_26, no0, no1, nz1, nz2, nz3, nz4, nz5, nz7, nz8, Classical.not_not, bz0, bz1, wi_nil, ld_0, ld_s, isIv_I, isLv_L, isRv_R, true_and, and_true, lset_0, lset_1, lset_s, avw_I, avw_L, avw_R, clr_cons, clr_nil, kst_0, kst_1, kstL_0, kstL_1, addk_I, pA_0, pA_s, pD_0, pD_s, wid_nil, wid_cons, rcv_c, putv_I, putv_L, List.length_cons, List.length_nil, List.set_cons_zero, List.set_cons_succ, not_false_eq_true, Nat.reduceMod, Nat.reduceDiv, Nat.reduceEqDiff, Nat.reduceLT, Nat.reduceLeDiff, Nat.reduceAdd, Nat.reduceSub, reduceIte, Nat.lt_irrefl, Nat.zero_ne_one, Nat.one_ne_zero, Nat.zero_add, List.nil_append, List.cons_append, Option.toList_some, Option.toList_none, forall_const, false_implies, true_implies, false_or, or_false, true_or, or_true, i_le, i_lt, i_eq, i_eq0, i_lt0, i_0le, i_0lt, i_le0, i_in1, i_cl, nI_add, pk_mul, pk_sub, i_div, i_rem, i_sh1, i_bit, i_or, i_and, i_andn, nt_le, nf_le, nt_lt, nf_lt, nt_eq, nf_eq, not_true_eq_false, and_self, and_false, false_and, eq_self, Bool.toNat_true, Bool.toNat_false, i_bool, i_bool1, Bool.false_eq_true, Bool.true_eq_false, reduceCtorEq, i_neg1, i_neg2, i_neg3, i_neg4, i_neg5, i_neg6, i_neg7, i_neg8, i_neg9, i_nega, i_negb, i_negc, i_max2, i_min2, g, hws, (y_will hy)]
            try simp (disch := omega) only [no0, no1, nz1, nz2, nz3, nz4, nz5, nz7, nz8, Classical.not_not, bz0, bz1, wi_nil, ld_0, ld_s, isIv_I, isLv_L, isRv_R, true_and, and_true, lset_0, lset_1, lset_s, avw_I, avw_L, avw_R, clr_cons, clr_nil, kst_0, kst_1, kstL_0, kstL_1, addk_I, pA_0, pA_s, pD_0, pD_s, wid_nil, wid_cons, rcv_c, putv_I, putv_L, List.length_cons, List.length_nil, List.set_cons_zero, List.set_cons_succ, not_false_eq_true, Nat.reduceMod, Nat.reduceDiv, Nat.reduceEqDiff, Nat.reduceLT, Nat.reduceLeDiff, Nat.reduceAdd, Nat.reduceSub, reduceIte, Nat.lt_irrefl, Nat.zero_ne_one, Nat.one_ne_zero, Nat.zero_add, List.nil_append, List.cons_append, Option.toList_some, Option.toList_none, forall_const, false_implies, true_implies, false_or, or_false, true_or, or_true, i_le, i_lt, i_eq, i_eq0, i_lt0, i_0le, i_0lt, i_le0, i_in1, i_cl, nI_add, pk_mul, pk_sub, i_div, i_rem, i_sh1, i_bit, i_or, i_and, i_andn, nt_le, nf_le, nt_lt, nf_lt, nt_eq, nf_eq, not_true_eq_false, and_self, and_false, false_and, eq_self, Bool.toNat_true, Bool.toNat_false, i_bool, i_bool1, Bool.false_eq_true, Bool.true_eq_false, reduceCtorEq, i_neg1, i_neg2, i_neg3, i_neg4, i_neg5, i_neg6, i_neg7, i_neg8, i_neg9, i_nega, i_negb, i_negc, i_max2, i_min2, wi_nil]
            repeat (
              first
              | refine s_X2_seek_0 ?_
              | refine s_X2_seek_10 ?_
              | refine s_X2_seek_17 ?_
              | refine s_X2_seek_18 ?_
              | refine s_X2_seek_22 ?_
              | refine s_X2_seek_28 ?_
              | refine s_X2_seek_40 ?_
              | refine s_X2_seek_103 ?_
              | refine s_X2_seek_114 ?_
              | refine s_X2_seek_118 ?_
              | refine s_X2_seek_124 ?_
              simp (disch := omega) only [B_X2_seek_0, wi_iload_n, wi_icmp_ge, wi_iconst, wi_icmp_lt, B_X2_seek_10, wi_aload_n, wi_iload, wi_invokevirtual, cnt_1, B_X2_seek_17, wi_return_, B_X2_seek_18, cnt_6, B_X2_seek_22, wi_istore, B_X2_seek_28, wi_astore, wi_isub, wi_invokestatic, B_X2_seek_40, wi_imul, wi_iadd, B_X2_seek_47, wi_bipush, wi_getfield, fldv_1_4, fds_1_4, wi_icmp_le, wi_ixor, wi_iand, wi_if_ne, wi_aload, wi_iaload, fldv_6_9, fds_6_9, wi_icmp_gt, fldv_1_2, fds_1_2, wi_iastore, cnt_13, aTy_13, aLn_13, arr_13, B_X2_seek_103, B_X2_seek_114, B_X2_seek_118, wi_iinc, wi_goto, B_X2_seek_124, no0, no1, nz1, nz2, nz3, nz4, nz5, nz7, nz8, Classical.not_not, bz0, bz1, wi_nil, ld_0, ld_s, isIv_I, isLv_L, isRv_R, true_and, and_true, lset_0, lset_1, lset_s, avw_I, avw_L, avw_R, clr_cons, clr_nil, kst_0, kst_1, kstL_0, kstL_1, addk_I, pA_0, pA_s, pD_0, pD_s, wid_nil, wid_cons, rcv_c, putv_I, putv_L, List.length_cons, List.length_nil, List.set_cons_zero, List.set_cons_succ, not_false_eq_true, Nat.reduceMod, Nat.reduceDiv, Nat.reduceEqDiff, Nat.reduceLT, Nat.reduceLeDiff, Nat.reduceAdd, Nat.reduceSub, reduceIte, Nat.lt_irrefl, Nat.zero_ne_one, Nat.one_ne_zero, Nat.zero_add, List.nil_append, List.cons_append, Option.toList_some, Option.toList_none, forall_const, false_implies, true_implies, false_or, or_false, true_or, or_true, i_le, i_lt, i_eq, i_eq0, i_lt0, i_0le, i_0lt, i_le0, i_in1, i_cl, nI_add, pk_mul, pk_sub, i_div, i_rem, i_sh1, i_bit, i_or, i_and, i_andn, nt_le, nf_le, nt_lt, nf_lt, nt_eq, nf_eq, not_true_eq_false, and_self, and_false, false_and, eq_self, Bool.toNat_true, Bool.toNat_false, i_bool, i_bool1, Bool.false_eq_true, Bool.true_eq_false, reduceCtorEq, i_neg1, i_neg2, i_neg3, i_neg4, i_neg5, i_neg6, i_neg7, i_neg8, i_neg9, i_nega, i_negb, i_negc, i_max2, i_min2])
            exact cont (no2 c2)
        · refine s_X2_seek_47 ?_
          simp (disch := omega) only [B_X2_seek_47, wi_iload, wi_bipush, wi_icmp_ge, wi_aload_n, wi_getfield, fldv_1_4, fds_1_4, cnt_1, wi_icmp_le, wi_iconst, wi_ixor, wi_iand, wi_if_ne, wi_aload, wi_iaload, fldv_6_9, fds_6_9, cnt_6, wi_icmp_gt, fldv_1_2, fds_1_2, wi_iload_n, wi_iastore, wi_invokevirtual, cnt_13, aTy_13, aLn_13, arr_13, cnt_26, aTy_26, aLn_26, arr_26, no0, no1, nz1, nz2, nz3, nz4, nz5, nz7, nz8, Classical.not_not, bz0, bz1, wi_nil, ld_0, ld_s, isIv_I, isLv_L, isRv_R, true_and, and_true, lset_0, lset_1, lset_s, avw_I, avw_L, avw_R, clr_cons, clr_nil, kst_0, kst_1, kstL_0, kstL_1, addk_I, pA_0, pA_s, pD_0, pD_s, wid_nil, wid_cons, rcv_c, putv_I, putv_L, List.length_cons, List.length_nil, List.set_cons_zero, List.set_cons_succ, not_false_eq_true, Nat.reduceMod, Nat.reduceDiv, Nat.reduceEqDiff, Nat.reduceLT, Nat.reduceLeDiff, Nat.reduceAdd, Nat.reduceSub, reduceIte, Nat.lt_irrefl, Nat.zero_ne_one, Nat.one_ne_zero, Nat.zero_add, List.nil_append, List.cons_append, Option.toList_some, Option.toList_none, forall_const, false_implies, true_implies, false_or, or_false, true_or, or_true, i_le, i_lt, i_eq, i_eq0, i_lt0, i_0le, i_0lt, i_le0, i_in1, i_cl, nI_add, pk_mul, pk_sub, i_div, i_rem, i_sh1, i_bit, i_or, i_and, i_andn, nt_le, nf_le, nt_lt, nf_lt, nt_eq, nf_eq, not_true_eq_false, and_self, and_false, false_and, eq_self, Bool.toNat_true, Bool.toNat_false, i_bool, i_bool1, Bool.false_eq_true, Bool.true_eq_false, reduceCtorEq, i_neg1, i_neg2, i_neg3, i_neg4, i_neg5, i_neg6, i_neg7, i_neg8, i_neg9, i_nega, i_negb, i_negc, i_max2, i_min2, g, hws, (y_will hy)]
          try simp (disch := omega) only [no0, no1, nz1, nz2, nz3, nz4, nz5, nz7, nz8, Classical.not_not, bz0, bz1, wi_nil, ld_0, ld_s, isIv_I, isLv_L, isRv_R, true_and, and_true, lset_0, lset_1, lset_s, avw_I, avw_L, avw_R, clr_cons, clr_nil, kst_0, kst_1, kstL_0, kstL_1, addk_I, pA_0, pA_s, pD_0, pD_s, wid_nil, wid_cons, rcv_c, putv_I, putv_L, List.length_cons, List.length_nil, List.set_cons_zero, List.set_cons_succ, not_false_eq_true, Nat.reduceMod, Nat.reduceDiv, Nat.reduceEqDiff, Nat.reduceLT, Nat.reduceLeDiff, Nat.reduceAdd, Nat.reduceSub, reduceIte, Nat.lt_irrefl, Nat.zero_ne_one, Nat.one_ne_zero, Nat.zero_add, List.nil_append, List.cons_append, Option.toList_some, Option.toList_none, forall_const, false_implies, true_implies, false_or, or_false, true_or, or_true, i_le, i_lt, i_eq, i_eq0, i_lt0, i_0le, i_0lt, i_le0, i_in1, i_cl, nI_add, pk_mul, pk_sub, i_div, i_rem, i_sh1, i_bit, i_or, i_and, i_andn, nt_le, nf_le, nt_lt, nf_lt, nt_eq, nf_eq, not_true_eq_false, and_self, and_false, false_and, eq_self, Bool.toNat_true, Bool.toNat_false, i_bool, i_bool1, Bool.false_eq_true, Bool.true_eq_false, reduceCtorEq, i_neg1, i_neg2, i_neg3, i_neg4, i_neg5, i_neg6, i_neg7, i_neg8, i_neg9, i_nega, i_negb, i_negc, i_max2, i_min2, wi_nil]
          repeat (
            first
            | refine s_X2_seek_0 ?_
            | refine s_X2_seek_10 ?_
            | refine s_X2_seek_17 ?_
            | refine s_X2_seek_18 ?_
            | refine s_X2_seek_22 ?_
            | refine s_X2_seek_28 ?_
            | refine s_X2_seek_40 ?_
            | refine s_X2_seek_103 ?_
            | refine s_X2_seek_114 ?_
            | refine s_X2_seek_118 ?_
            | refine s_X2_seek_124 ?_
            simp (disch := omega) only [B_X2_seek_0, wi_iload_n, wi_icmp_ge, wi_iconst, wi_icmp_lt, B_X2_seek_10, wi_aload_n, wi_iload, wi_invokevirtual, cnt_1, B_X2_seek_17, wi_return_, B_X2_seek_18, cnt_6, B_X2_seek_22, wi_istore, B_X2_seek_28, wi_astore, wi_isub, wi_invokestatic, B_X2_seek_40, wi_imul, wi_iadd, B_X2_seek_47, wi_bipush, wi_getfield, fldv_1_4, fds_1_4, wi_icmp_le, wi_ixor, wi_iand, wi_if_ne, wi_aload, wi_iaload, fldv_6_9, fds_6_9, wi_icmp_gt, fldv_1_2, fds_1_2, wi_iastore, cnt_13, aTy_13, aLn_13, arr_13, B_X2_seek_103, B_X2_seek_114, B_X2_seek_118, wi_iinc, wi_goto, B_X2_seek_124, no0, no1, nz1, nz2, nz3, nz4, nz5, nz7, nz8, Classical.not_not, bz0, bz1, wi_nil, ld_0, ld_s, isIv_I, isLv_L, isRv_R, true_and, and_true, lset_0, lset_1, lset_s, avw_I, avw_L, avw_R, clr_cons, clr_nil, kst_0, kst_1, kstL_0, kstL_1, addk_I, pA_0, pA_s, pD_0, pD_s, wid_nil, wid_cons, rcv_c, putv_I, putv_L, List.length_cons, List.length_nil, List.set_cons_zero, List.set_cons_succ, not_false_eq_true, Nat.reduceMod, Nat.reduceDiv, Nat.reduceEqDiff, Nat.reduceLT, Nat.reduceLeDiff, Nat.reduceAdd, Nat.reduceSub, reduceIte, Nat.lt_irrefl, Nat.zero_ne_one, Nat.one_ne_zero, Nat.zero_add, List.nil_append, List.cons_append, Option.toList_some, Option.toList_none, forall_const, false_implies, true_implies, false_or, or_false, true_or, or_true, i_le, i_lt, i_eq, i_eq0, i_lt0, i_0le, i_0lt, i_le0, i_in1, i_cl, nI_add, pk_mul, pk_sub, i_div, i_rem, i_sh1, i_bit, i_or, i_and, i_andn, nt_le, nf_le, nt_lt, nf_lt, nt_eq, nf_eq, not_true_eq_false, and_self, and_false, false_and, eq_self, Bool.toNat_true, Bool.toNat_false, i_bool, i_bool1, Bool.false_eq_true, Bool.true_eq_false, reduceCtorEq, i_neg1, i_neg2, i_neg3, i_neg4, i_neg5, i_neg6, i_neg7, i_neg8, i_neg9, i_nega, i_negb, i_negc, i_max2, i_min2])
          exact cont (no1 c1)
      · by_cases c1 : s &&& (31 - yop Y) = 0
        · by_cases c2 : csum (ycz Y) 5 s ≤ Y 6 2
          · refine s_X2_seek_47 ?_
            simp (disch := omega) only [B_X2_seek_47, wi_iload, wi_bipush, wi_icmp_ge, wi_aload_n, wi_getfield, fldv_1_4, fds_1_4, cnt_1, wi_icmp_le, wi_iconst, wi_ixor, wi_iand, wi_if_ne, wi_aload, wi_iaload, fldv_6_9, fds_6_9, cnt_6, wi_icmp_gt, fldv_1_2, fds_1_2, wi_iload_n, wi_iastore, wi_invokevirtual, cnt_13, aTy_13, aLn_13, arr_13, cnt_26, aTy_26, aLn_26, arr_26, no0, no1, nz1, nz2, nz3, nz4, nz5, nz7, nz8, Classical.not_not, bz0, bz1, wi_nil, ld_0, ld_s, isIv_I, isLv_L, isRv_R, true_and, and_true, lset_0, lset_1, lset_s, avw_I, avw_L, avw_R, clr_cons, clr_nil, kst_0, kst_1, kstL_0, kstL_1, addk_I, pA_0, pA_s, pD_0, pD_s, wid_nil, wid_cons, rcv_c, putv_I, putv_L, List.length_cons, List.length_nil, List.set_cons_zero, List.set_cons_succ, not_false_eq_true, Nat.reduceMod, Nat.reduceDiv, Nat.reduceEqDiff, Nat.reduceLT, Nat.reduceLeDiff, Nat.reduceAdd, Nat.reduceSub, reduceIte, Nat.lt_irrefl, Nat.zero_ne_one, Nat.one_ne_zero, Nat.zero_add, List.nil_append, List.cons_append, Option.toList_some, Option.toList_none, forall_const, false_implies, true_implies, false_or, or_false, true_or, or_true, i_le, i_lt, i_eq, i_eq0, i_lt0, i_0le, i_0lt, i_le0, i_in1, i_cl, nI_add, pk_mul, pk_sub, i_div, i_rem, i_sh1, i_bit, i_or, i_and, i_andn, nt_le, nf_le, nt_lt, nf_lt, nt_eq, nf_eq, not_true_eq_false, and_self, and_false, false_and, eq_self, Bool.toNat_true, Bool.toNat_false, i_bool, i_bool1, Bool.false_eq_true, Bool.true_eq_false, reduceCtorEq, i_neg1, i_neg2, i_neg3, i_neg4, i_neg5, i_neg6, i_neg7, i_neg8, i_neg9, i_nega, i_negb, i_negc, i_max2, i_min2, g, hws, (y_will hy)]
            exact rest c1 c2
          · refine s_X2_seek_47 ?_
            simp (disch := omega) only [B_X2_seek_47, wi_iload, wi_bipush, wi_icmp_ge, wi_aload_n, wi_getfield, fldv_1_4, fds_1_4, cnt_1, wi_icmp_le, wi_iconst, wi_ixor, wi_iand, wi_if_ne, wi_aload, wi_iaload, fldv_6_9, fds_6_9, cnt_6, wi_icmp_gt, fldv_1_2, fds_1_2, wi_iload_n, wi_iastore, wi_invokevirtual, cnt_13, aTy_13, aLn_13, arr_13, cnt_26, aTy_26, aLn_26, arr_26, no0, no1, nz1, nz2, nz3, nz4, nz5, nz7, nz8, Classical.not_not, bz0, bz1, wi_nil, ld_0, ld_s, isIv_I, isLv_L, isRv_R, true_and, and_true, lset_0, lset_1, lset_s, avw_I, avw_L, avw_R, clr_cons, clr_nil, kst_0, kst_1, kstL_0, kstL_1, addk_I, pA_0, pA_s, pD_0, pD_s, wid_nil, wid_cons, rcv_c, putv_I, putv_L, List.length_cons, List.length_nil, List.set_cons_zero, List.set_cons_succ, not_false_eq_true, Nat.reduceMod, Nat.reduceDiv, Nat.reduceEqDiff, Nat.reduceLT, Nat.reduceLeDiff, Nat.reduceAdd, Nat.reduceSub, reduceIte, Nat.lt_irrefl, Nat.zero_ne_one, Nat.one_ne_zero, Nat.zero_add, List.nil_append, List.cons_append, Option.toList_some, Option.toList_none, forall_const, false_implies, true_implies, false_or, or_false, true_or, or_true, i_le, i_lt, i_eq, i_eq0, i_lt0, i_0le, i_0lt, i_le0, i_in1, i_cl, nI_add, pk_mul, pk_sub, i_div, i_rem, i_sh1, i_bit, i_or, i_and, i_andn, nt_le, nf_le, nt_lt, nf_lt, nt_eq, nf_eq, not_true_eq_false, and_self, and_false, false_and, eq_self, Bool.toNat_true, Bool.toNat_false, i_bool, i_bool1, Bool.false_eq_true, Bool.true_eq_false, reduceCtorEq, i_neg1, i_neg2, i_neg3, i_neg4, i_neg5, i_neg6, i_neg7, i_neg8, i_neg9, i_nega, i_negb, i_negc, i_max2, i_min2, g, hws, (y_will hy)]
            try simp (disch := omega) only [no0, no1, nz1, nz2, nz3, nz4, nz5, nz7, nz8, Classical.not_not, bz0, bz1, wi_nil, ld_0, ld_s, isIv_I, isLv_L, isRv_R, true_and, and_true, lset_0, lset_1, lset_s, avw_I, avw_L, avw_R, clr_cons, clr_nil, kst_0, kst_1, kstL_0, kstL_1, addk_I, pA_0, pA_s, pD_0, pD_s, wid_nil, wid_cons, rcv_c, putv_I, putv_L, List.length_cons, List.length_nil, List.set_cons_zero, List.set_cons_succ, not_false_eq_true, Nat.reduceMod, Nat.reduceDiv, Nat.reduceEqDiff, Nat.reduceLT, Nat.reduceLeDiff, Nat.reduceAdd, Nat.reduceSub, reduceIte, Nat.lt_irrefl, Nat.zero_ne_one, Nat.one_ne_zero, Nat.zero_add, List.nil_append, List.cons_append, Option.toList_some, Option.toList_none, forall_const, false_implies, true_implies, false_or, or_false, true_or, or_true, i_le, i_lt, i_eq, i_eq0, i_lt0, i_0le, i_0lt, i_le0, i_in1, i_cl, nI_add, pk_mul, pk_sub, i_div, i_rem, i_sh1, i_bit, i_or, i_and, i_andn, nt_le, nf_le, nt_lt, nf_lt, nt_eq, nf_eq, not_true_eq_false, and_self, and_false, false_and, eq_self, Bool.toNat_true, Bool.toNat_false, i_bool, i_bool1, Bool.false_eq_true, Bool.true_eq_false, reduceCtorEq, i_neg1, i_neg2, i_neg3, i_neg4, i_neg5, i_neg6, i_neg7, i_neg8, i_neg9, i_nega, i_negb, i_negc, i_max2, i_min2, wi_nil]
            repeat (
              first
              | refine s_X2_seek_0 ?_
              | refine s_X2_seek_10 ?_
              | refine s_X2_seek_17 ?_
              | refine s_X2_seek_18 ?_
              | refine s_X2_seek_22 ?_
              | refine s_X2_seek_28 ?_
              | refine s_X2_seek_40 ?_
              | refine s_X2_seek_103 ?_
              | refine s_X2_seek_114 ?_
              | refine s_X2_seek_118 ?_
              | refine s_X2_seek_124 ?_
              simp (disch := omega) only [B_X2_seek_0, wi_iload_n, wi_icmp_ge, wi_iconst, wi_icmp_lt, B_X2_seek_10, wi_aload_n, wi_iload, wi_invokevirtual, cnt_1, B_X2_seek_17, wi_return_, B_X2_seek_18, cnt_6, B_X2_seek_22, wi_istore, B_X2_seek_28, wi_astore, wi_isub, wi_invokestatic, B_X2_seek_40, wi_imul, wi_iadd, B_X2_seek_47, wi_bipush, wi_getfield, fldv_1_4, fds_1_4, wi_icmp_le, wi_ixor, wi_iand, wi_if_ne, wi_aload, wi_iaload, fldv_6_9, fds_6_9, wi_icmp_gt, fldv_1_2, fds_1_2, wi_iastore, cnt_13, aTy_13, aLn_13, arr_13, B_X2_seek_103, B_X2_seek_114, B_X2_seek_118, wi_iinc, wi_goto, B_X2_seek_124, no0, no1, nz1, nz2, nz3, nz4, nz5, nz7, nz8, Classical.not_not, bz0, bz1, wi_nil, ld_0, ld_s, isIv_I, isLv_L, isRv_R, true_and, and_true, lset_0, lset_1, lset_s, avw_I, avw_L, avw_R, clr_cons, clr_nil, kst_0, kst_1, kstL_0, kstL_1, addk_I, pA_0, pA_s, pD_0, pD_s, wid_nil, wid_cons, rcv_c, putv_I, putv_L, List.length_cons, List.length_nil, List.set_cons_zero, List.set_cons_succ, not_false_eq_true, Nat.reduceMod, Nat.reduceDiv, Nat.reduceEqDiff, Nat.reduceLT, Nat.reduceLeDiff, Nat.reduceAdd, Nat.reduceSub, reduceIte, Nat.lt_irrefl, Nat.zero_ne_one, Nat.one_ne_zero, Nat.zero_add, List.nil_append, List.cons_append, Option.toList_some, Option.toList_none, forall_const, false_implies, true_implies, false_or, or_false, true_or, or_true, i_le, i_lt, i_eq, i_eq0, i_lt0, i_0le, i_0lt, i_le0, i_in1, i_cl, nI_add, pk_mul, pk_sub, i_div, i_rem, i_sh1, i_bit, i_or, i_and, i_andn, nt_le, nf_le, nt_lt, nf_lt, nt_eq, nf_eq, not_true_eq_false, and_self, and_false, false_and, eq_self, Bool.toNat_true, Bool.toNat_false, i_bool, i_bool1, Bool.false_eq_true, Bool.true_eq_false, reduceCtorEq, i_neg1, i_neg2, i_neg3, i_neg4, i_neg5, i_neg6, i_neg7, i_neg8, i_neg9, i_nega, i_negb, i_negc, i_max2, i_min2])
            exact cont (no2 c2)
        · refine s_X2_seek_47 ?_
          simp (disch := omega) only [B_X2_seek_47, wi_iload, wi_bipush, wi_icmp_ge, wi_aload_n, wi_getfield, fldv_1_4, fds_1_4, cnt_1, wi_icmp_le, wi_iconst, wi_ixor, wi_iand, wi_if_ne, wi_aload, wi_iaload, fldv_6_9, fds_6_9, cnt_6, wi_icmp_gt, fldv_1_2, fds_1_2, wi_iload_n, wi_iastore, wi_invokevirtual, cnt_13, aTy_13, aLn_13, arr_13, cnt_26, aTy_26, aLn_26, arr_26, no0, no1, nz1, nz2, nz3, nz4, nz5, nz7, nz8, Classical.not_not, bz0, bz1, wi_nil, ld_0, ld_s, isIv_I, isLv_L, isRv_R, true_and, and_true, lset_0, lset_1, lset_s, avw_I, avw_L, avw_R, clr_cons, clr_nil, kst_0, kst_1, kstL_0, kstL_1, addk_I, pA_0, pA_s, pD_0, pD_s, wid_nil, wid_cons, rcv_c, putv_I, putv_L, List.length_cons, List.length_nil, List.set_cons_zero, List.set_cons_succ, not_false_eq_true, Nat.reduceMod, Nat.reduceDiv, Nat.reduceEqDiff, Nat.reduceLT, Nat.reduceLeDiff, Nat.reduceAdd, Nat.reduceSub, reduceIte, Nat.lt_irrefl, Nat.zero_ne_one, Nat.one_ne_zero, Nat.zero_add, List.nil_append, List.cons_append, Option.toList_some, Option.toList_none, forall_const, false_implies, true_implies, false_or, or_false, true_or, or_true, i_le, i_lt, i_eq, i_eq0, i_lt0, i_0le, i_0lt, i_le0, i_in1, i_cl, nI_add, pk_mul, pk_sub, i_div, i_rem, i_sh1, i_bit, i_or, i_and, i_andn, nt_le, nf_le, nt_lt, nf_lt, nt_eq, nf_eq, not_true_eq_false, and_self, and_false, false_and, eq_self, Bool.toNat_true, Bool.toNat_false, i_bool, i_bool1, Bool.false_eq_true, Bool.true_eq_false, reduceCtorEq, i_neg1, i_neg2, i_neg3, i_neg4, i_neg5, i_neg6, i_neg7, i_neg8, i_neg9, i_nega, i_negb, i_negc, i_max2, i_min2, g, hws, (y_will hy)]
          try simp (disch := omega) only [no0, no1, nz1, nz2, nz3, nz4, nz5, nz7, nz8, Classical.not_not, bz0, bz1, wi_nil, ld_0, ld_s, isIv_I, isLv_L, isRv_R, true_and, and_true, lset_0, lset_1, lset_s, avw_I, avw_L, avw_R, clr_cons, clr_nil, kst_0, kst_1, kstL_0, kstL_1, addk_I, pA_0, pA_s, pD_0, pD_s, wid_nil, wid_cons, rcv_c, putv_I, putv_L, List.length_cons, List.length_nil, List.set_cons_zero, List.set_cons_succ, not_false_eq_true, Nat.reduceMod, Nat.reduceDiv, Nat.reduceEqDiff, Nat.reduceLT, Nat.reduceLeDiff, Nat.reduceAdd, Nat.reduceSub, reduceIte, Nat.lt_irrefl, Nat.zero_ne_one, Nat.one_ne_zero, Nat.zero_add, List.nil_append, List.cons_append, Option.toList_some, Option.toList_none, forall_const, false_implies, true_implies, false_or, or_false, true_or, or_true, i_le, i_lt, i_eq, i_eq0, i_lt0, i_0le, i_0lt, i_le0, i_in1, i_cl, nI_add, pk_mul, pk_sub, i_div, i_rem, i_sh1, i_bit, i_or, i_and, i_andn, nt_le, nf_le, nt_lt, nf_lt, nt_eq, nf_eq, not_true_eq_false, and_self, and_false, false_and, eq_self, Bool.toNat_true, Bool.toNat_false, i_bool, i_bool1, Bool.false_eq_true, Bool.true_eq_false, reduceCtorEq, i_neg1, i_neg2, i_neg3, i_neg4, i_neg5, i_neg6, i_neg7, i_neg8, i_neg9, i_nega, i_negb, i_negc, i_max2, i_min2, wi_nil]
          repeat (
            first
            | refine s_X2_seek_0 ?_
            | refine s_X2_seek_10 ?_
            | refine s_X2_seek_17 ?_
            | refine s_X2_seek_18 ?_
            | refine s_X2_seek_22 ?_
            | refine s_X2_seek_28 ?_
            | refine s_X2_seek_40 ?_
            | refine s_X2_seek_103 ?_
            | refine s_X2_seek_114 ?_
            | refine s_X2_seek_118 ?_
            | refine s_X2_seek_124 ?_
            simp (disch := omega) only [B_X2_seek_0, wi_iload_n, wi_icmp_ge, wi_iconst, wi_icmp_lt, B_X2_seek_10, wi_aload_n, wi_iload, wi_invokevirtual, cnt_1, B_X2_seek_17, wi_return_, B_X2_seek_18, cnt_6, B_X2_seek_22, wi_istore, B_X2_seek_28, wi_astore, wi_isub, wi_invokestatic, B_X2_seek_40, wi_imul, wi_iadd, B_X2_seek_47, wi_bipush, wi_getfield, fldv_1_4, fds_1_4, wi_icmp_le, wi_ixor, wi_iand, wi_if_ne, wi_aload, wi_iaload, fldv_6_9, fds_6_9, wi_icmp_gt, fldv_1_2, fds_1_2, wi_iastore, cnt_13, aTy_13, aLn_13, arr_13, B_X2_seek_103, B_X2_seek_114, B_X2_seek_118, wi_iinc, wi_goto, B_X2_seek_124, no0, no1, nz1, nz2, nz3, nz4, nz5, nz7, nz8, Classical.not_not, bz0, bz1, wi_nil, ld_0, ld_s, isIv_I, isLv_L, isRv_R, true_and, and_true, lset_0, lset_1, lset_s, avw_I, avw_L, avw_R, clr_cons, clr_nil, kst_0, kst_1, kstL_0, kstL_1, addk_I, pA_0, pA_s, pD_0, pD_s, wid_nil, wid_cons, rcv_c, putv_I, putv_L, List.length_cons, List.length_nil, List.set_cons_zero, List.set_cons_succ, not_false_eq_true, Nat.reduceMod, Nat.reduceDiv, Nat.reduceEqDiff, Nat.reduceLT, Nat.reduceLeDiff, Nat.reduceAdd, Nat.reduceSub, reduceIte, Nat.lt_irrefl, Nat.zero_ne_one, Nat.one_ne_zero, Nat.zero_add, List.nil_append, List.cons_append, Option.toList_some, Option.toList_none, forall_const, false_implies, true_implies, false_or, or_false, true_or, or_true, i_le, i_lt, i_eq, i_eq0, i_lt0, i_0le, i_0lt, i_le0, i_in1, i_cl, nI_add, pk_mul, pk_sub, i_div, i_rem, i_sh1, i_bit, i_or, i_and, i_andn, nt_le, nf_le, nt_lt, nf_lt, nt_eq, nf_eq, not_true_eq_false, and_self, and_false, false_and, eq_self, Bool.toNat_true, Bool.toNat_false, i_bool, i_bool1, Bool.false_eq_true, Bool.true_eq_false, reduceCtorEq, i_neg1, i_neg2, i_neg3, i_neg4, i_neg5, i_neg6, i_neg7, i_neg8, i_neg9, i_nega, i_negb, i_negc, i_max2, i_min2])
          exact cont (no1 c1)
    · cases a with
      | zero => exact absurd (Nat.zero_le _) c0
      | succ a =>
        have g1 : gI S 1 0 4 = nI a := g1.trans tI_s
        refine s_X2_seek_47 ?_
        simp (disch := omega) only [B_X2_seek_47, wi_iload, wi_bipush, wi_icmp_ge, wi_aload_n, wi_getfield, fldv_1_4, fds_1_4, cnt_1, wi_icmp_le, wi_iconst, wi_ixor, wi_iand, wi_if_ne, wi_aload, wi_iaload, fldv_6_9, fds_6_9, cnt_6, wi_icmp_gt, fldv_1_2, fds_1_2, wi_iload_n, wi_iastore, wi_invokevirtual, cnt_13, aTy_13, aLn_13, arr_13, no0, no1, nz1, nz2, nz3, nz4, nz5, nz7, nz8, Classical.not_not, bz0, bz1, wi_nil, ld_0, ld_s, isIv_I, isLv_L, isRv_R, true_and, and_true, lset_0, lset_1, lset_s, avw_I, avw_L, avw_R, clr_cons, clr_nil, kst_0, kst_1, kstL_0, kstL_1, addk_I, pA_0, pA_s, pD_0, pD_s, wid_nil, wid_cons, rcv_c, putv_I, putv_L, List.length_cons, List.length_nil, List.set_cons_zero, List.set_cons_succ, not_false_eq_true, Nat.reduceMod, Nat.reduceDiv, Nat.reduceEqDiff, Nat.reduceLT, Nat.reduceLeDiff, Nat.reduceAdd, Nat.reduceSub, reduceIte, Nat.lt_irrefl, Nat.zero_ne_one, Nat.one_ne_zero, Nat.zero_add, List.nil_append, List.cons_append, Option.toList_some, Option.toList_none, forall_const, false_implies, true_implies, false_or, or_false, true_or, or_true, i_le, i_lt, i_eq, i_eq0, i_lt0, i_0le, i_0lt, i_le0, i_in1, i_cl, nI_add, pk_mul, pk_sub, i_div, i_rem, i_sh1, i_bit, i_or, i_and, i_andn, nt_le, nf_le, nt_lt, nf_lt, nt_eq, nf_eq, not_true_eq_false, and_self, and_false, false_and, eq_self, Bool.toNat_true, Bool.toNat_false, i_bool, i_bool1, Bool.false_eq_true, Bool.true_eq_false, reduceCtorEq, i_neg1, i_neg2, i_neg3, i_neg4, i_neg5, i_neg6, i_neg7, i_neg8, i_neg9, i_nega, i_negb, i_negc, i_max2, i_min2, g1]
        try simp (disch := omega) only [no0, no1, nz1, nz2, nz3, nz4, nz5, nz7, nz8, Classical.not_not, bz0, bz1, wi_nil, ld_0, ld_s, isIv_I, isLv_L, isRv_R, true_and, and_true, lset_0, lset_1, lset_s, avw_I, avw_L, avw_R, clr_cons, clr_nil, kst_0, kst_1, kstL_0, kstL_1, addk_I, pA_0, pA_s, pD_0, pD_s, wid_nil, wid_cons, rcv_c, putv_I, putv_L, List.length_cons, List.length_nil, List.set_cons_zero, List.set_cons_succ, not_false_eq_true, Nat.reduceMod, Nat.reduceDiv, Nat.reduceEqDiff, Nat.reduceLT, Nat.reduceLeDiff, Nat.reduceAdd, Nat.reduceSub, reduceIte, Nat.lt_irrefl, Nat.zero_ne_one, Nat.one_ne_zero, Nat.zero_add, List.nil_append, List.cons_append, Option.toList_some, Option.toList_none, forall_const, false_implies, true_implies, false_or, or_false, true_or, or_true, i_le, i_lt, i_eq, i_eq0, i_lt0, i_0le, i_0lt, i_le0, i_in1, i_cl, nI_add, pk_mul, pk_sub, i_div, i_rem, i_sh1, i_bit, i_or, i_and, i_andn, nt_le, nf_le, nt_lt, nf_lt, nt_eq, nf_eq, not_true_eq_false, and_self, and_false, false_and, eq_self, Bool.toNat_true, Bool.toNat_false, i_bool, i_bool1, Bool.false_eq_true, Bool.true_eq_false, reduceCtorEq, i_neg1, i_neg2, i_neg3, i_neg4, i_neg5, i_neg6, i_neg7, i_neg8, i_neg9, i_nega, i_negb, i_negc, i_max2, i_min2, wi_nil]
        repeat (
          first
          | refine s_X2_seek_0 ?_
          | refine s_X2_seek_10 ?_
          | refine s_X2_seek_17 ?_
          | refine s_X2_seek_18 ?_
          | refine s_X2_seek_22 ?_
          | refine s_X2_seek_28 ?_
          | refine s_X2_seek_40 ?_
          | refine s_X2_seek_103 ?_
          | refine s_X2_seek_114 ?_
          | refine s_X2_seek_118 ?_
          | refine s_X2_seek_124 ?_
          simp (disch := omega) only [B_X2_seek_0, wi_iload_n, wi_icmp_ge, wi_iconst, wi_icmp_lt, B_X2_seek_10, wi_aload_n, wi_iload, wi_invokevirtual, cnt_1, B_X2_seek_17, wi_return_, B_X2_seek_18, cnt_6, B_X2_seek_22, wi_istore, B_X2_seek_28, wi_astore, wi_isub, wi_invokestatic, B_X2_seek_40, wi_imul, wi_iadd, B_X2_seek_47, wi_bipush, wi_getfield, fldv_1_4, fds_1_4, wi_icmp_le, wi_ixor, wi_iand, wi_if_ne, wi_aload, wi_iaload, fldv_6_9, fds_6_9, wi_icmp_gt, fldv_1_2, fds_1_2, wi_iastore, cnt_13, aTy_13, aLn_13, arr_13, B_X2_seek_103, B_X2_seek_114, B_X2_seek_118, wi_iinc, wi_goto, B_X2_seek_124, no0, no1, nz1, nz2, nz3, nz4, nz5, nz7, nz8, Classical.not_not, bz0, bz1, wi_nil, ld_0, ld_s, isIv_I, isLv_L, isRv_R, true_and, and_true, lset_0, lset_1, lset_s, avw_I, avw_L, avw_R, clr_cons, clr_nil, kst_0, kst_1, kstL_0, kstL_1, addk_I, pA_0, pA_s, pD_0, pD_s, wid_nil, wid_cons, rcv_c, putv_I, putv_L, List.length_cons, List.length_nil, List.set_cons_zero, List.set_cons_succ, not_false_eq_true, Nat.reduceMod, Nat.reduceDiv, Nat.reduceEqDiff, Nat.reduceLT, Nat.reduceLeDiff, Nat.reduceAdd, Nat.reduceSub, reduceIte, Nat.lt_irrefl, Nat.zero_ne_one, Nat.one_ne_zero, Nat.zero_add, List.nil_append, List.cons_append, Option.toList_some, Option.toList_none, forall_const, false_implies, true_implies, false_or, or_false, true_or, or_true, i_le, i_lt, i_eq, i_eq0, i_lt0, i_0le, i_0lt, i_le0, i_in1, i_cl, nI_add, pk_mul, pk_sub, i_div, i_rem, i_sh1, i_bit, i_or, i_and, i_andn, nt_le, nf_le, nt_lt, nf_lt, nt_eq, nf_eq, not_true_eq_false, and_self, and_false, false_and, eq_self, Bool.toNat_true, Bool.toNat_false, i_bool, i_bool1, Bool.false_eq_true, Bool.true_eq_false, reduceCtorEq, i_neg1, i_neg2, i_neg3, i_neg4, i_neg5, i_neg6, i_neg7, i_neg8, i_neg9, i_nega, i_negb, i_negc, i_max2, i_min2])
        refine fin S ?_ hf
        have hst2 := fld_stay (F := skF k e Y q sum) (st := st) (s := s) (m + 1) (fun t h1 h2 => by
          rw [hst1, skF]
          split
          · rename_i hk2
            have hb2 := okB_bct h5 (by omega) hk2
            rw [Nat.succ_mul] at c0
            exact sk_no k (e + 1) (psY Y t 0) _ _ _ (by rw [psY_sc.1]; exact h5) (by rw [yop_ps]; (try dsimp only); omega)
          · rfl)
        rw [show s + (m + 1) = 32 by omega, ← sk_s, hst1] at hst2
        rw [hst2]
        exact h
theorem sk_step {k : Nat} (IH : SK k) : SK (k + 1) := by
  intro d n e j Y q sum st S P hk hn hyj ho hsum h hst fin
  obtain ⟨ej, hy⟩ := hyj (by omega)
  subst ej
  have h5 := ho.1.1
  have hyl := yop_lt (Y := Y) h5
  have hb := bct_lt (s := yop Y) (by omega)
  have hyi := yi_lt (e := e)
  have hlv := lv_yi (e := e) (by omega)
  have hkb : (k + 1) * bct (yop Y) ≤ 18 := by
    have h1 : (k + 1) * bct (yop Y) ≤ 3 * 6 := Nat.mul_le_mul (by omega) hb
    omega
  have hnk : n - e = k + 1 := by omega
  rw [show d + (k + 1) + 5 = d + k + 5 + 1 by omega]
  refine x_entry (ls2 := [aR 1 0, aR 6 (yi e), aI (nI e), aI (nI n), aI (nI sum), aU, aU, aU, aU]) (Nat.le_of_ble_eq_true rfl) pl_2 rfl (Nat.le_of_ble_eq_true rfl) ?_
  try simp (disch := omega) only [no0, no1, nz1, nz2, nz3, nz4, nz5, nz7, nz8, Classical.not_not, bz0, bz1, wi_nil, ld_0, ld_s, isIv_I, isLv_L, isRv_R, true_and, and_true, lset_0, lset_1, lset_s, avw_I, avw_L, avw_R, clr_cons, clr_nil, kst_0, kst_1, kstL_0, kstL_1, addk_I, pA_0, pA_s, pD_0, pD_s, wid_nil, wid_cons, rcv_c, putv_I, putv_L, List.length_cons, List.length_nil, List.set_cons_zero, List.set_cons_succ, not_false_eq_true, Nat.reduceMod, Nat.reduceDiv, Nat.reduceEqDiff, Nat.reduceLT, Nat.reduceLeDiff, Nat.reduceAdd, Nat.reduceSub, reduceIte, Nat.lt_irrefl, Nat.zero_ne_one, Nat.one_ne_zero, Nat.zero_add, List.nil_append, List.cons_append, Option.toList_some, Option.toList_none, forall_const, false_implies, true_implies, false_or, or_false, true_or, or_true, i_le, i_lt, i_eq, i_eq0, i_lt0, i_0le, i_0lt, i_le0, i_in1, i_cl, nI_add, pk_mul, pk_sub, i_div, i_rem, i_sh1, i_bit, i_or, i_and, i_andn, nt_le, nf_le, nt_lt, nf_lt, nt_eq, nf_eq, not_true_eq_false, and_self, and_false, false_and, eq_self, Bool.toNat_true, Bool.toNat_false, i_bool, i_bool1, Bool.false_eq_true, Bool.true_eq_false, reduceCtorEq, i_neg1, i_neg2, i_neg3, i_neg4, i_neg5, i_neg6, i_neg7, i_neg8, i_neg9, i_nega, i_negb, i_negc, i_max2, i_min2, wi_nil]
  repeat (
    first
    | refine s_X2_seek_0 ?_
    | refine s_X2_seek_10 ?_
    | refine s_X2_seek_17 ?_
    | refine s_X2_seek_18 ?_
    | refine s_X2_seek_22 ?_
    | refine s_X2_seek_28 ?_
    | refine s_X2_seek_40 ?_
    | refine s_X2_seek_103 ?_
    | refine s_X2_seek_114 ?_
    | refine s_X2_seek_118 ?_
    | refine s_X2_seek_124 ?_
    simp (disch := omega) only [B_X2_seek_0, wi_iload_n, wi_icmp_ge, wi_iconst, wi_icmp_lt, B_X2_seek_10, wi_aload_n, wi_iload, wi_invokevirtual, cnt_1, B_X2_seek_17, wi_return_, B_X2_seek_18, cnt_6, B_X2_seek_22, wi_istore, B_X2_seek_28, wi_astore, wi_isub, wi_invokestatic, B_X2_seek_40, wi_imul, wi_iadd, B_X2_seek_47, wi_bipush, wi_getfield, fldv_1_4, fds_1_4, wi_icmp_le, wi_ixor, wi_iand, wi_if_ne, wi_aload, wi_iaload, fldv_6_9, fds_6_9, wi_icmp_gt, fldv_1_2, fds_1_2, wi_iastore, cnt_13, aTy_13, aLn_13, arr_13, B_X2_seek_103, B_X2_seek_114, B_X2_seek_118, wi_iinc, wi_goto, B_X2_seek_124, no0, no1, nz1, nz2, nz3, nz4, nz5, nz7, nz8, Classical.not_not, bz0, bz1, wi_nil, ld_0, ld_s, isIv_I, isLv_L, isRv_R, true_and, and_true, lset_0, lset_1, lset_s, avw_I, avw_L, avw_R, clr_cons, clr_nil, kst_0, kst_1, kstL_0, kstL_1, addk_I, pA_0, pA_s, pD_0, pD_s, wid_nil, wid_cons, rcv_c, putv_I, putv_L, List.length_cons, List.length_nil, List.set_cons_zero, List.set_cons_succ, not_false_eq_true, Nat.reduceMod, Nat.reduceDiv, Nat.reduceEqDiff, Nat.reduceLT, Nat.reduceLeDiff, Nat.reduceAdd, Nat.reduceSub, reduceIte, Nat.lt_irrefl, Nat.zero_ne_one, Nat.one_ne_zero, Nat.zero_add, List.nil_append, List.cons_append, Option.toList_some, Option.toList_none, forall_const, false_implies, true_implies, false_or, or_false, true_or, or_true, i_le, i_lt, i_eq, i_eq0, i_lt0, i_0le, i_0lt, i_le0, i_in1, i_cl, nI_add, pk_mul, pk_sub, i_div, i_rem, i_sh1, i_bit, i_or, i_and, i_andn, nt_le, nf_le, nt_lt, nf_lt, nt_eq, nf_eq, not_true_eq_false, and_self, and_false, false_and, eq_self, Bool.toNat_true, Bool.toNat_false, i_bool, i_bool1, Bool.false_eq_true, Bool.true_eq_false, reduceCtorEq, i_neg1, i_neg2, i_neg3, i_neg4, i_neg5, i_neg6, i_neg7, i_neg8, i_neg9, i_nega, i_negb, i_negc, i_max2, i_min2])
  refine c_open yi_lt hy ho ?_
  try simp (disch := omega) only [no0, no1, nz1, nz2, nz3, nz4, nz5, nz7, nz8, Classical.not_not, bz0, bz1, wi_nil, ld_0, ld_s, isIv_I, isLv_L, isRv_R, true_and, and_true, lset_0, lset_1, lset_s, avw_I, avw_L, avw_R, clr_cons, clr_nil, kst_0, kst_1, kstL_0, kstL_1, addk_I, pA_0, pA_s, pD_0, pD_s, wid_nil, wid_cons, rcv_c, putv_I, putv_L, List.length_cons, List.length_nil, List.set_cons_zero, List.set_cons_succ, not_false_eq_true, Nat.reduceMod, Nat.reduceDiv, Nat.reduceEqDiff, Nat.reduceLT, Nat.reduceLeDiff, Nat.reduceAdd, Nat.reduceSub, reduceIte, Nat.lt_irrefl, Nat.zero_ne_one, Nat.one_ne_zero, Nat.zero_add, List.nil_append, List.cons_append, Option.toList_some, Option.toList_none, forall_const, false_implies, true_implies, false_or, or_false, true_or, or_true, i_le, i_lt, i_eq, i_eq0, i_lt0, i_0le, i_0lt, i_le0, i_in1, i_cl, nI_add, pk_mul, pk_sub, i_div, i_rem, i_sh1, i_bit, i_or, i_and, i_andn, nt_le, nf_le, nt_lt, nf_lt, nt_eq, nf_eq, not_true_eq_false, and_self, and_false, false_and, eq_self, Bool.toNat_true, Bool.toNat_false, i_bool, i_bool1, Bool.false_eq_true, Bool.true_eq_false, reduceCtorEq, i_neg1, i_neg2, i_neg3, i_neg4, i_neg5, i_neg6, i_neg7, i_neg8, i_neg9, i_nega, i_negb, i_negc, i_max2, i_min2, wi_nil]
  repeat (
    first
    | refine s_X2_seek_0 ?_
    | refine s_X2_seek_10 ?_
    | refine s_X2_seek_17 ?_
    | refine s_X2_seek_18 ?_
    | refine s_X2_seek_22 ?_
    | refine s_X2_seek_28 ?_
    | refine s_X2_seek_40 ?_
    | refine s_X2_seek_103 ?_
    | refine s_X2_seek_114 ?_
    | refine s_X2_seek_118 ?_
    | refine s_X2_seek_124 ?_
    simp (disch := omega) only [B_X2_seek_0, wi_iload_n, wi_icmp_ge, wi_iconst, wi_icmp_lt, B_X2_seek_10, wi_aload_n, wi_iload, wi_invokevirtual, cnt_1, B_X2_seek_17, wi_return_, B_X2_seek_18, cnt_6, B_X2_seek_22, wi_istore, B_X2_seek_28, wi_astore, wi_isub, wi_invokestatic, B_X2_seek_40, wi_imul, wi_iadd, B_X2_seek_47, wi_bipush, wi_getfield, fldv_1_4, fds_1_4, wi_icmp_le, wi_ixor, wi_iand, wi_if_ne, wi_aload, wi_iaload, fldv_6_9, fds_6_9, wi_icmp_gt, fldv_1_2, fds_1_2, wi_iastore, cnt_13, aTy_13, aLn_13, arr_13, B_X2_seek_103, B_X2_seek_114, B_X2_seek_118, wi_iinc, wi_goto, B_X2_seek_124, no0, no1, nz1, nz2, nz3, nz4, nz5, nz7, nz8, Classical.not_not, bz0, bz1, wi_nil, ld_0, ld_s, isIv_I, isLv_L, isRv_R, true_and, and_true, lset_0, lset_1, lset_s, avw_I, avw_L, avw_R, clr_cons, clr_nil, kst_0, kst_1, kstL_0, kstL_1, addk_I, pA_0, pA_s, pD_0, pD_s, wid_nil, wid_cons, rcv_c, putv_I, putv_L, List.length_cons, List.length_nil, List.set_cons_zero, List.set_cons_succ, not_false_eq_true, Nat.reduceMod, Nat.reduceDiv, Nat.reduceEqDiff, Nat.reduceLT, Nat.reduceLeDiff, Nat.reduceAdd, Nat.reduceSub, reduceIte, Nat.lt_irrefl, Nat.zero_ne_one, Nat.one_ne_zero, Nat.zero_add, List.nil_append, List.cons_append, Option.toList_some, Option.toList_none, forall_const, false_implies, true_implies, false_or, or_false, true_or, or_true, i_le, i_lt, i_eq, i_eq0, i_lt0, i_0le, i_0lt, i_le0, i_in1, i_cl, nI_add, pk_mul, pk_sub, i_div, i_rem, i_sh1, i_bit, i_or, i_and, i_andn, nt_le, nf_le, nt_lt, nf_lt, nt_eq, nf_eq, not_true_eq_false, and_self, and_false, false_and, eq_self, Bool.toNat_true, Bool.toNat_false, i_bool, i_bool1, Bool.false_eq_true, Bool.true_eq_false, reduceCtorEq, i_neg1, i_neg2, i_neg3, i_neg4, i_neg5, i_neg6, i_neg7, i_neg8, i_neg9, i_nega, i_negb, i_negc, i_max2, i_min2])
  refine c_weighed yi_lt hy ho (by omega) (fun g hg => ?_)
  try simp (disch := omega) only [no0, no1, nz1, nz2, nz3, nz4, nz5, nz7, nz8, Classical.not_not, bz0, bz1, wi_nil, ld_0, ld_s, isIv_I, isLv_L, isRv_R, true_and, and_true, lset_0, lset_1, lset_s, avw_I, avw_L, avw_R, clr_cons, clr_nil, kst_0, kst_1, kstL_0, kstL_1, addk_I, pA_0, pA_s, pD_0, pD_s, wid_nil, wid_cons, rcv_c, putv_I, putv_L, List.length_cons, List.length_nil, List.set_cons_zero, List.set_cons_succ, not_false_eq_true, Nat.reduceMod, Nat.reduceDiv, Nat.reduceEqDiff, Nat.reduceLT, Nat.reduceLeDiff, Nat.reduceAdd, Nat.reduceSub, reduceIte, Nat.lt_irrefl, Nat.zero_ne_one, Nat.one_ne_zero, Nat.zero_add, List.nil_append, List.cons_append, Option.toList_some, Option.toList_none, forall_const, false_implies, true_implies, false_or, or_false, true_or, or_true, i_le, i_lt, i_eq, i_eq0, i_lt0, i_0le, i_0lt, i_le0, i_in1, i_cl, nI_add, pk_mul, pk_sub, i_div, i_rem, i_sh1, i_bit, i_or, i_and, i_andn, nt_le, nf_le, nt_lt, nf_lt, nt_eq, nf_eq, not_true_eq_false, and_self, and_false, false_and, eq_self, Bool.toNat_true, Bool.toNat_false, i_bool, i_bool1, Bool.false_eq_true, Bool.true_eq_false, reduceCtorEq, i_neg1, i_neg2, i_neg3, i_neg4, i_neg5, i_neg6, i_neg7, i_neg8, i_neg9, i_nega, i_negb, i_negc, i_max2, i_min2, wi_nil]
  repeat (
    first
    | refine s_X2_seek_0 ?_
    | refine s_X2_seek_10 ?_
    | refine s_X2_seek_17 ?_
    | refine s_X2_seek_18 ?_
    | refine s_X2_seek_22 ?_
    | refine s_X2_seek_28 ?_
    | refine s_X2_seek_40 ?_
    | refine s_X2_seek_103 ?_
    | refine s_X2_seek_114 ?_
    | refine s_X2_seek_118 ?_
    | refine s_X2_seek_124 ?_
    simp (disch := omega) only [B_X2_seek_0, wi_iload_n, wi_icmp_ge, wi_iconst, wi_icmp_lt, B_X2_seek_10, wi_aload_n, wi_iload, wi_invokevirtual, cnt_1, B_X2_seek_17, wi_return_, B_X2_seek_18, cnt_6, B_X2_seek_22, wi_istore, B_X2_seek_28, wi_astore, wi_isub, wi_invokestatic, B_X2_seek_40, wi_imul, wi_iadd, B_X2_seek_47, wi_bipush, wi_getfield, fldv_1_4, fds_1_4, wi_icmp_le, wi_ixor, wi_iand, wi_if_ne, wi_aload, wi_iaload, fldv_6_9, fds_6_9, wi_icmp_gt, fldv_1_2, fds_1_2, wi_iastore, cnt_13, aTy_13, aLn_13, arr_13, B_X2_seek_103, B_X2_seek_114, B_X2_seek_118, wi_iinc, wi_goto, B_X2_seek_124, no0, no1, nz1, nz2, nz3, nz4, nz5, nz7, nz8, Classical.not_not, bz0, bz1, wi_nil, ld_0, ld_s, isIv_I, isLv_L, isRv_R, true_and, and_true, lset_0, lset_1, lset_s, avw_I, avw_L, avw_R, clr_cons, clr_nil, kst_0, kst_1, kstL_0, kstL_1, addk_I, pA_0, pA_s, pD_0, pD_s, wid_nil, wid_cons, rcv_c, putv_I, putv_L, List.length_cons, List.length_nil, List.set_cons_zero, List.set_cons_succ, not_false_eq_true, Nat.reduceMod, Nat.reduceDiv, Nat.reduceEqDiff, Nat.reduceLT, Nat.reduceLeDiff, Nat.reduceAdd, Nat.reduceSub, reduceIte, Nat.lt_irrefl, Nat.zero_ne_one, Nat.one_ne_zero, Nat.zero_add, List.nil_append, List.cons_append, Option.toList_some, Option.toList_none, forall_const, false_implies, true_implies, false_or, or_false, true_or, or_true, i_le, i_lt, i_eq, i_eq0, i_lt0, i_0le, i_0lt, i_le0, i_in1, i_cl, nI_add, pk_mul, pk_sub, i_div, i_rem, i_sh1, i_bit, i_or, i_and, i_andn, nt_le, nf_le, nt_lt, nf_lt, nt_eq, nf_eq, not_true_eq_false, and_self, and_false, false_and, eq_self, Bool.toNat_true, Bool.toNat_false, i_bool, i_bool1, Bool.false_eq_true, Bool.true_eq_false, reduceCtorEq, i_neg1, i_neg2, i_neg3, i_neg4, i_neg5, i_neg6, i_neg7, i_neg8, i_neg9, i_nega, i_negb, i_negc, i_max2, i_min2])
  refine c_bitCount (by omega) ?_
  try simp (disch := omega) only [no0, no1, nz1, nz2, nz3, nz4, nz5, nz7, nz8, Classical.not_not, bz0, bz1, wi_nil, ld_0, ld_s, isIv_I, isLv_L, isRv_R, true_and, and_true, lset_0, lset_1, lset_s, avw_I, avw_L, avw_R, clr_cons, clr_nil, kst_0, kst_1, kstL_0, kstL_1, addk_I, pA_0, pA_s, pD_0, pD_s, wid_nil, wid_cons, rcv_c, putv_I, putv_L, List.length_cons, List.length_nil, List.set_cons_zero, List.set_cons_succ, not_false_eq_true, Nat.reduceMod, Nat.reduceDiv, Nat.reduceEqDiff, Nat.reduceLT, Nat.reduceLeDiff, Nat.reduceAdd, Nat.reduceSub, reduceIte, Nat.lt_irrefl, Nat.zero_ne_one, Nat.one_ne_zero, Nat.zero_add, List.nil_append, List.cons_append, Option.toList_some, Option.toList_none, forall_const, false_implies, true_implies, false_or, or_false, true_or, or_true, i_le, i_lt, i_eq, i_eq0, i_lt0, i_0le, i_0lt, i_le0, i_in1, i_cl, nI_add, pk_mul, pk_sub, i_div, i_rem, i_sh1, i_bit, i_or, i_and, i_andn, nt_le, nf_le, nt_lt, nf_lt, nt_eq, nf_eq, not_true_eq_false, and_self, and_false, false_and, eq_self, Bool.toNat_true, Bool.toNat_false, i_bool, i_bool1, Bool.false_eq_true, Bool.true_eq_false, reduceCtorEq, i_neg1, i_neg2, i_neg3, i_neg4, i_neg5, i_neg6, i_neg7, i_neg8, i_neg9, i_nega, i_negb, i_negc, i_max2, i_min2, hnk, wi_nil]
  repeat (
    first
    | refine s_X2_seek_0 ?_
    | refine s_X2_seek_10 ?_
    | refine s_X2_seek_17 ?_
    | refine s_X2_seek_18 ?_
    | refine s_X2_seek_22 ?_
    | refine s_X2_seek_28 ?_
    | refine s_X2_seek_40 ?_
    | refine s_X2_seek_103 ?_
    | refine s_X2_seek_114 ?_
    | refine s_X2_seek_118 ?_
    | refine s_X2_seek_124 ?_
    simp (disch := omega) only [B_X2_seek_0, wi_iload_n, wi_icmp_ge, wi_iconst, wi_icmp_lt, B_X2_seek_10, wi_aload_n, wi_iload, wi_invokevirtual, cnt_1, B_X2_seek_17, wi_return_, B_X2_seek_18, cnt_6, B_X2_seek_22, wi_istore, B_X2_seek_28, wi_astore, wi_isub, wi_invokestatic, B_X2_seek_40, wi_imul, wi_iadd, B_X2_seek_47, wi_bipush, wi_getfield, fldv_1_4, fds_1_4, wi_icmp_le, wi_ixor, wi_iand, wi_if_ne, wi_aload, wi_iaload, fldv_6_9, fds_6_9, wi_icmp_gt, fldv_1_2, fds_1_2, wi_iastore, cnt_13, aTy_13, aLn_13, arr_13, B_X2_seek_103, B_X2_seek_114, B_X2_seek_118, wi_iinc, wi_goto, B_X2_seek_124, no0, no1, nz1, nz2, nz3, nz4, nz5, nz7, nz8, Classical.not_not, bz0, bz1, wi_nil, ld_0, ld_s, isIv_I, isLv_L, isRv_R, true_and, and_true, lset_0, lset_1, lset_s, avw_I, avw_L, avw_R, clr_cons, clr_nil, kst_0, kst_1, kstL_0, kstL_1, addk_I, pA_0, pA_s, pD_0, pD_s, wid_nil, wid_cons, rcv_c, putv_I, putv_L, List.length_cons, List.length_nil, List.set_cons_zero, List.set_cons_succ, not_false_eq_true, Nat.reduceMod, Nat.reduceDiv, Nat.reduceEqDiff, Nat.reduceLT, Nat.reduceLeDiff, Nat.reduceAdd, Nat.reduceSub, reduceIte, Nat.lt_irrefl, Nat.zero_ne_one, Nat.one_ne_zero, Nat.zero_add, List.nil_append, List.cons_append, Option.toList_some, Option.toList_none, forall_const, false_implies, true_implies, false_or, or_false, true_or, or_true, i_le, i_lt, i_eq, i_eq0, i_lt0, i_0le, i_0lt, i_le0, i_in1, i_cl, nI_add, pk_mul, pk_sub, i_div, i_rem, i_sh1, i_bit, i_or, i_and, i_andn, nt_le, nf_le, nt_lt, nf_lt, nt_eq, nf_eq, not_true_eq_false, and_self, and_false, false_and, eq_self, Bool.toNat_true, Bool.toNat_false, i_bool, i_bool1, Bool.false_eq_true, Bool.true_eq_false, reduceCtorEq, i_neg1, i_neg2, i_neg3, i_neg4, i_neg5, i_neg6, i_neg7, i_neg8, i_neg9, i_nega, i_negb, i_negc, i_max2, i_min2, hnk])
  refine l_seek (S0 := sA S 26 (yi e) g) (st := st) IH hk hn ho hsum hst (yrx_26 hy) (fun s hs => by rw [gA_same]; exact hg s hs) (fun S2 h2 f2 => fin S2 h2 ((fp_26 (by omega)).trans f2)) 32 0 _ rfl h FP.refl rfl
theorem c_seek : ∀ k, SK k := by
  intro k
  induction k with
  | zero => exact sk_base
  | succ k ih => exact sk_step ih
theorem c_best {n : Nat} (hn : n ≤ 3) (hy : YrX S 1 Y) (ho : YOk 40 Y) (fin : ∀ S2, HS n (sk n 0 Y (fun _ => 0) 0 (0, fun _ => 0)) (fun _ => 0) 0 S2 → FP 0 S S2 → P (some (aI (tI (sk n 0 Y (fun _ => 0) 0 (0, fun _ => 0)).1))) S2) : wpM (d + 9) mX2_best [aR 1 0, aR 6 1, aI (nI n)] S P := by
  refine x_entry (ls2 := [aR 1 0, aR 6 1, aI (nI n)]) (Nat.le_of_ble_eq_true rfl) pl_2 rfl (Nat.le_of_ble_eq_true rfl) ?_
  try simp (disch := omega) only [no0, no1, nz1, nz2, nz3, nz4, nz5, nz7, nz8, Classical.not_not, bz0, bz1, wi_nil, ld_0, ld_s, isIv_I, isLv_L, isRv_R, true_and, and_true, lset_0, lset_1, lset_s, avw_I, avw_L, avw_R, clr_cons, clr_nil, kst_0, kst_1, kstL_0, kstL_1, addk_I, pA_0, pA_s, pD_0, pD_s, wid_nil, wid_cons, rcv_c, putv_I, putv_L, List.length_cons, List.length_nil, List.set_cons_zero, List.set_cons_succ, not_false_eq_true, Nat.reduceMod, Nat.reduceDiv, Nat.reduceEqDiff, Nat.reduceLT, Nat.reduceLeDiff, Nat.reduceAdd, Nat.reduceSub, reduceIte, Nat.lt_irrefl, Nat.zero_ne_one, Nat.one_ne_zero, Nat.zero_add, List.nil_append, List.cons_append, Option.toList_some, Option.toList_none, forall_const, false_implies, true_implies, false_or, or_false, true_or, or_true, i_le, i_lt, i_eq, i_eq0, i_lt0, i_0le, i_0lt, i_le0, i_in1, i_cl, nI_add, pk_mul, pk_sub, i_div, i_rem, i_sh1, i_bit, i_or, i_and, i_andn, nt_le, nf_le, nt_lt, nf_lt, nt_eq, nf_eq, not_true_eq_false, and_self, and_false, false_and, eq_self, Bool.toNat_true, Bool.toNat_false, i_bool, i_bool1, Bool.false_eq_true, Bool.true_eq_false, reduceCtorEq, i_neg1, i_neg2, i_neg3, i_neg4, i_neg5, i_neg6, i_neg7, i_neg8, i_neg9, i_nega, i_negb, i_negc, i_max2, i_min2, wi_nil]
  repeat (
    first
    | refine s_X2_best_0 ?_
    | refine s_X2_best_13 ?_
    simp (disch := omega) only [B_X2_best_0, wi_aload_n, wi_iconst, wi_putfield, pOk_1_4, cnt_1, wi_iload_n, wi_invokestatic, B_X2_best_13, wi_getfield, fldv_1_4, fds_1_4, wi_ireturn, no0, no1, nz1, nz2, nz3, nz4, nz5, nz7, nz8, Classical.not_not, bz0, bz1, wi_nil, ld_0, ld_s, isIv_I, isLv_L, isRv_R, true_and, and_true, lset_0, lset_1, lset_s, avw_I, avw_L, avw_R, clr_cons, clr_nil, kst_0, kst_1, kstL_0, kstL_1, addk_I, pA_0, pA_s, pD_0, pD_s, wid_nil, wid_cons, rcv_c, putv_I, putv_L, List.length_cons, List.length_nil, List.set_cons_zero, List.set_cons_succ, not_false_eq_true, Nat.reduceMod, Nat.reduceDiv, Nat.reduceEqDiff, Nat.reduceLT, Nat.reduceLeDiff, Nat.reduceAdd, Nat.reduceSub, reduceIte, Nat.lt_irrefl, Nat.zero_ne_one, Nat.one_ne_zero, Nat.zero_add, List.nil_append, List.cons_append, Option.toList_some, Option.toList_none, forall_const, false_implies, true_implies, false_or, or_false, true_or, or_true, i_le, i_lt, i_eq, i_eq0, i_lt0, i_0le, i_0lt, i_le0, i_in1, i_cl, nI_add, pk_mul, pk_sub, i_div, i_rem, i_sh1, i_bit, i_or, i_and, i_andn, nt_le, nf_le, nt_lt, nf_lt, nt_eq, nf_eq, not_true_eq_false, and_self, and_false, false_and, eq_self, Bool.toNat_true, Bool.toNat_false, i_bool, i_bool1, Bool.false_eq_true, Bool.true_eq_false, reduceCtorEq, i_neg1, i_neg2, i_neg3, i_neg4, i_neg5, i_neg6, i_neg7, i_neg8, i_neg9, i_nega, i_negb, i_negc, i_max2, i_min2])
  obtain ⟨d2, hd2⟩ : ∃ d2, d + 8 = d2 + n + 5 := ⟨d + 3 - n, by omega⟩
  have hS : HS n (0, fun _ => 0) (fun _ => 0) 0 (sI S 1 0 4 (-nI 1)) := ⟨rfl, Or.inl rfl, fun t ht => absurd ht (Nat.not_lt_zero t)⟩
  have hd3 := c_seek n d2 n 0 1 Y (fun _ => 0) 0 (0, fun _ => 0) (sI S 1 0 4 (-nI 1)) (fun r T => wpX (d + 8) mX2_best 13 [aR 1 0, aU, aU] (r.toList ++ []) T P) (by omega) hn (fun _ => ⟨rfl, hy⟩) ho (Nat.zero_le _) hS (Nat.zero_le _) (fun S2 h2 f2 => ?_)
  · rw [← hd2] at hd3
    exact hd3
  · have g := h2.1
    try simp (disch := omega) only [no0, no1, nz1, nz2, nz3, nz4, nz5, nz7, nz8, Classical.not_not, bz0, bz1, wi_nil, ld_0, ld_s, isIv_I, isLv_L, isRv_R, true_and, and_true, lset_0, lset_1, lset_s, avw_I, avw_L, avw_R, clr_cons, clr_nil, kst_0, kst_1, kstL_0, kstL_1, addk_I, pA_0, pA_s, pD_0, pD_s, wid_nil, wid_cons, rcv_c, putv_I, putv_L, List.length_cons, List.length_nil, List.set_cons_zero, List.set_cons_succ, not_false_eq_true, Nat.reduceMod, Nat.reduceDiv, Nat.reduceEqDiff, Nat.reduceLT, Nat.reduceLeDiff, Nat.reduceAdd, Nat.reduceSub, reduceIte, Nat.lt_irrefl, Nat.zero_ne_one, Nat.one_ne_zero, Nat.zero_add, List.nil_append, List.cons_append, Option.toList_some, Option.toList_none, forall_const, false_implies, true_implies, false_or, or_false, true_or, or_true, i_le, i_lt, i_eq, i_eq0, i_lt0, i_0le, i_0lt, i_le0, i_in1, i_cl, nI_add, pk_mul, pk_sub, i_div, i_rem, i_sh1, i_bit, i_or, i_and, i_andn, nt_le, nf_le, nt_lt, nf_lt, nt_eq, nf_eq, not_true_eq_false, and_self, and_false, false_and, eq_self, Bool.toNat_true, Bool.toNat_false, i_bool, i_bool1, Bool.false_eq_true, Bool.true_eq_false, reduceCtorEq, i_neg1, i_neg2, i_neg3, i_neg4, i_neg5, i_neg6, i_neg7, i_neg8, i_neg9, i_nega, i_negb, i_negc, i_max2, i_min2, g, wi_nil]
    repeat (
      first
      | refine s_X2_best_0 ?_
      | refine s_X2_best_13 ?_
      simp (disch := omega) only [B_X2_best_0, wi_aload_n, wi_iconst, wi_putfield, pOk_1_4, cnt_1, wi_iload_n, wi_invokestatic, B_X2_best_13, wi_getfield, fldv_1_4, fds_1_4, wi_ireturn, no0, no1, nz1, nz2, nz3, nz4, nz5, nz7, nz8, Classical.not_not, bz0, bz1, wi_nil, ld_0, ld_s, isIv_I, isLv_L, isRv_R, true_and, and_true, lset_0, lset_1, lset_s, avw_I, avw_L, avw_R, clr_cons, clr_nil, kst_0, kst_1, kstL_0, kstL_1, addk_I, pA_0, pA_s, pD_0, pD_s, wid_nil, wid_cons, rcv_c, putv_I, putv_L, List.length_cons, List.length_nil, List.set_cons_zero, List.set_cons_succ, not_false_eq_true, Nat.reduceMod, Nat.reduceDiv, Nat.reduceEqDiff, Nat.reduceLT, Nat.reduceLeDiff, Nat.reduceAdd, Nat.reduceSub, reduceIte, Nat.lt_irrefl, Nat.zero_ne_one, Nat.one_ne_zero, Nat.zero_add, List.nil_append, List.cons_append, Option.toList_some, Option.toList_none, forall_const, false_implies, true_implies, false_or, or_false, true_or, or_true, i_le, i_lt, i_eq, i_eq0, i_lt0, i_0le, i_0lt, i_le0, i_in1, i_cl, nI_add, pk_mul, pk_sub, i_div, i_rem, i_sh1, i_bit, i_or, i_and, i_andn, nt_le, nf_le, nt_lt, nf_lt, nt_eq, nf_eq, not_true_eq_false, and_self, and_false, false_and, eq_self, Bool.toNat_true, Bool.toNat_false, i_bool, i_bool1, Bool.false_eq_true, Bool.true_eq_false, reduceCtorEq, i_neg1, i_neg2, i_neg3, i_neg4, i_neg5, i_neg6, i_neg7, i_neg8, i_neg9, i_nega, i_negb, i_negc, i_max2, i_min2, g])
    exact fin S2 h2 (fp_most.trans f2)
end
